/-! THE CLAIM OUT OF ONE WALK OF THE LAW'S BODY. Your part is whole_start (and what it stands on); all else here is the same for every law, but numbers. -/
def R_law : String := "EightMinutesLaw"
def lw_P (b : Addr) (xs : List Int32) (args : Array Value) (s : State) : Prop := args = #[.ref b] ∧ s.IntsAt b xs ∧ xs.length ≤ 2048 ∧ (Jvm.Cond.and given_1 narrow_1).before args s = true
def lw_Q (_ : Array Value) (s : State) (o : Outcome) (t : State) : Prop := o = .returned (some (.int 1)) ∧ Framed s o t [] 600000 7302249
def lw_Z (below : List Frame) (a : Array Value) (s : State) : State → Prop := fun t => ∃ o, t.status = .running ∧ Ended t below o ∧ lw_Q a s o t
/-- the law's own end, with 1 on the stack, nothing written that was there before, its room as the claim has it -/
theorem lw_ret {p : Program} {l : Launch} {e : Env} {s : State} {m : MethodId} {below : List Frame} {meth : Method} {c : Code} {b : Nat} (hx : p.tables.exec = Jvm.exec) (hb : c.code = code) (hr : meth.sig.returnType = ret) (hlocks : meth.locks = false) {pc : Nat} {H : Heap} {ls : Array Slot} (hdg : decode code pc = .ok (.ireturn, 1)) : W p l e room_1 s m #[Value.ref b] below meth c H [] 600000 7302249 (lw_Z below #[Value.ref b] s) (F0 m pc ls [.int 1]) := by
  intro T hT X
  obtain ⟨fs, hret, hrun, hended, hW, hframe⟩ := X.leave (v := some (.int 1)) (hlocks := hlocks) (fun h => by rw [hr] at h; cases h)
  have hmeth' : T.vm.method? m = some meth := X.method'
  refine ⟨T.setFrames fs, ?_, .returned (some (.int 1)), hrun, hended, rfl, ⟨_, rfl⟩, hW, hframe⟩
  jvm_step X.here [X.here.top, hx, hb, hdg, hmeth', hr, ret, narrow_b1]
  (try refine ⟨rfl, ?_⟩); (try refine ⟨rfl, ?_⟩)
  first | (intro acts; rw [hret _ acts rfl rfl rfl]) | rw [hret _ _ rfl rfl rfl]
  exact Steps.refl _
/-- what holds at the law's entry: the machine, the code, the tables' words (any of lw_tbl by 'hts w (by decide +kernel)'), the script of L ints xs at the cell b, what the Statement gives of the start (any of its parts by flat_of_before) -/
def lw_At (p : Program) (s : State) (m : MethodId) (meth : Method) (c : Code) (b L : Nat) (xs : Nat → Int32) : Prop :=
  p.tables.exec = Jvm.exec ∧ c.code = code ∧ meth.sig.returnType = ret ∧ c.maxLocals = 4 ∧ s.vm.findClass R_law = some m.cls ∧ (∀ w ∈ lw_tbl, w.before #[Value.ref b] s = true) ∧ va_X b L xs s s.heap ∧ b < s.heap.size ∧ meth.locks = false ∧ (Jvm.Cond.and given_1 narrow_1).before #[Value.ref b] s = true
/-! the texts and the statics at the start -/
def zTm : Nat → Term := fun i => .string RX3 ([53, 43, 45, 47, 49, 51].getD i 0)
set_option maxHeartbeats 4000000 in
set_option maxRecDepth 100000 in
theorem z_strs {s : State} {b : Addr} {A : Nat → Prop} (hgv : (Jvm.Cond.and given_1 narrow_1).before #[Value.ref b] s = true) (hA : ∀ a : Nat, a < s.heap.size → ¬ A a) : ∃ adK adV : Nat → Nat, vk_S 6 zLen zByt adK adV A s s.heap ∧ ∀ i : Nat, i < 6 → (zTm i).eval #[Value.ref b] s none [] s = some (.ref (adK i)) := by
  have hs := flat_of_before _ hgv
  refine vk_Sof (tm := zTm) (len := zLen) (byt := zByt) (fun i hi => ?_) (fun i hi => ?_) (fun i hi => ?_) (fun i hi => ?_) (fun i hi => ?_) (fun i hi j hj => ?_) (fun i j hi hj hij => ?_) hA
  · rcases (by omega : i = 0 ∨ i = 1 ∨ i = 2 ∨ i = 3 ∨ i = 4 ∨ i = 5) with rfl | rfl | rfl | rfl | rfl | rfl
    · exact Nat.lt_of_lt_of_le (show 6 < 100 by decide) (by decide)
    · exact Nat.lt_of_lt_of_le (show 3 < 100 by decide) (by decide)
    · exact Nat.lt_of_lt_of_le (show 4 < 100 by decide) (by decide)
    · exact Nat.lt_of_lt_of_le (show 3 < 100 by decide) (by decide)
    · exact Nat.lt_of_lt_of_le (show 2 < 100 by decide) (by decide)
    · exact Nat.lt_of_lt_of_le (show 0 < 100 by decide) (by decide)
  · rcases (by omega : i = 0 ∨ i = 1 ∨ i = 2 ∨ i = 3 ∨ i = 4 ∨ i = 5) with rfl | rfl | rfl | rfl | rfl | rfl
    · exact hs (Cond.exactly (.string RX3 53) "java/lang/String") (by decide +kernel)
    · exact hs (Cond.exactly (.string RX3 43) "java/lang/String") (by decide +kernel)
    · exact hs (Cond.exactly (.string RX3 45) "java/lang/String") (by decide +kernel)
    · exact hs (Cond.exactly (.string RX3 47) "java/lang/String") (by decide +kernel)
    · exact hs (Cond.exactly (.string RX3 49) "java/lang/String") (by decide +kernel)
    · exact hs (Cond.exactly (.string RX3 51) "java/lang/String") (by decide +kernel)
  · rcases (by omega : i = 0 ∨ i = 1 ∨ i = 2 ∨ i = 3 ∨ i = 4 ∨ i = 5) with rfl | rfl | rfl | rfl | rfl | rfl
    · exact hs (Cond.eq (.field (.string RX3 53) "java/lang/String" "coder" "B") (.int 0)) (by decide +kernel)
    · exact hs (Cond.eq (.field (.string RX3 43) "java/lang/String" "coder" "B") (.int 0)) (by decide +kernel)
    · exact hs (Cond.eq (.field (.string RX3 45) "java/lang/String" "coder" "B") (.int 0)) (by decide +kernel)
    · exact hs (Cond.eq (.field (.string RX3 47) "java/lang/String" "coder" "B") (.int 0)) (by decide +kernel)
    · exact hs (Cond.eq (.field (.string RX3 49) "java/lang/String" "coder" "B") (.int 0)) (by decide +kernel)
    · exact hs (Cond.eq (.field (.string RX3 51) "java/lang/String" "coder" "B") (.int 0)) (by decide +kernel)
  · rcases (by omega : i = 0 ∨ i = 1 ∨ i = 2 ∨ i = 3 ∨ i = 4 ∨ i = 5) with rfl | rfl | rfl | rfl | rfl | rfl
    · exact hs (Cond.arrayOf (.field (.string RX3 53) "java/lang/String" "value" "[B") .byte) (by decide +kernel)
    · exact hs (Cond.arrayOf (.field (.string RX3 43) "java/lang/String" "value" "[B") .byte) (by decide +kernel)
    · exact hs (Cond.arrayOf (.field (.string RX3 45) "java/lang/String" "value" "[B") .byte) (by decide +kernel)
    · exact hs (Cond.arrayOf (.field (.string RX3 47) "java/lang/String" "value" "[B") .byte) (by decide +kernel)
    · exact hs (Cond.arrayOf (.field (.string RX3 49) "java/lang/String" "value" "[B") .byte) (by decide +kernel)
    · exact hs (Cond.arrayOf (.field (.string RX3 51) "java/lang/String" "value" "[B") .byte) (by decide +kernel)
  · rcases (by omega : i = 0 ∨ i = 1 ∨ i = 2 ∨ i = 3 ∨ i = 4 ∨ i = 5) with rfl | rfl | rfl | rfl | rfl | rfl
    · exact hs (Cond.eq (.length (.field (.string RX3 53) "java/lang/String" "value" "[B")) (.int (Int32.ofNat 6))) (by decide +kernel)
    · exact hs (Cond.eq (.length (.field (.string RX3 43) "java/lang/String" "value" "[B")) (.int (Int32.ofNat 3))) (by decide +kernel)
    · exact hs (Cond.eq (.length (.field (.string RX3 45) "java/lang/String" "value" "[B")) (.int (Int32.ofNat 4))) (by decide +kernel)
    · exact hs (Cond.eq (.length (.field (.string RX3 47) "java/lang/String" "value" "[B")) (.int (Int32.ofNat 3))) (by decide +kernel)
    · exact hs (Cond.eq (.length (.field (.string RX3 49) "java/lang/String" "value" "[B")) (.int (Int32.ofNat 2))) (by decide +kernel)
    · exact hs (Cond.eq (.length (.field (.string RX3 51) "java/lang/String" "value" "[B")) (.int (Int32.ofNat 0))) (by decide +kernel)
  · rcases (by omega : i = 0 ∨ i = 1 ∨ i = 2 ∨ i = 3 ∨ i = 4 ∨ i = 5) with rfl | rfl | rfl | rfl | rfl | rfl
    · have hj2 : j < 6 := hj
      rcases (by omega : j = 0 ∨ j = 1 ∨ j = 2 ∨ j = 3 ∨ j = 4 ∨ j = 5) with rfl | rfl | rfl | rfl | rfl | rfl
      · exact hs (Cond.eq (.elem (.field (.string RX3 53) "java/lang/String" "value" "[B") (.int (Int32.ofNat 0))) (.int 109)) (by decide +kernel)
      · exact hs (Cond.eq (.elem (.field (.string RX3 53) "java/lang/String" "value" "[B") (.int (Int32.ofNat 1))) (.int 101)) (by decide +kernel)
      · exact hs (Cond.eq (.elem (.field (.string RX3 53) "java/lang/String" "value" "[B") (.int (Int32.ofNat 2))) (.int 116)) (by decide +kernel)
      · exact hs (Cond.eq (.elem (.field (.string RX3 53) "java/lang/String" "value" "[B") (.int (Int32.ofNat 3))) (.int 115)) (by decide +kernel)
      · exact hs (Cond.eq (.elem (.field (.string RX3 53) "java/lang/String" "value" "[B") (.int (Int32.ofNat 4))) (.int 104)) (by decide +kernel)
      · exact hs (Cond.eq (.elem (.field (.string RX3 53) "java/lang/String" "value" "[B") (.int (Int32.ofNat 5))) (.int 119)) (by decide +kernel)
    · have hj2 : j < 3 := hj
      rcases (by omega : j = 0 ∨ j = 1 ∨ j = 2) with rfl | rfl | rfl
      · exact hs (Cond.eq (.elem (.field (.string RX3 43) "java/lang/String" "value" "[B") (.int (Int32.ofNat 0))) (.int 75)) (by decide +kernel)
      · exact hs (Cond.eq (.elem (.field (.string RX3 43) "java/lang/String" "value" "[B") (.int (Int32.ofNat 1))) (.int 68)) (by decide +kernel)
      · exact hs (Cond.eq (.elem (.field (.string RX3 43) "java/lang/String" "value" "[B") (.int (Int32.ofNat 2))) (.int 59)) (by decide +kernel)
    · have hj2 : j < 4 := hj
      rcases (by omega : j = 0 ∨ j = 1 ∨ j = 2 ∨ j = 3) with rfl | rfl | rfl | rfl
      · exact hs (Cond.eq (.elem (.field (.string RX3 45) "java/lang/String" "value" "[B") (.int (Int32.ofNat 0))) (.int 68)) (by decide +kernel)
      · exact hs (Cond.eq (.elem (.field (.string RX3 45) "java/lang/String" "value" "[B") (.int (Int32.ofNat 1))) (.int 68)) (by decide +kernel)
      · exact hs (Cond.eq (.elem (.field (.string RX3 45) "java/lang/String" "value" "[B") (.int (Int32.ofNat 2))) (.int 68)) (by decide +kernel)
      · exact hs (Cond.eq (.elem (.field (.string RX3 45) "java/lang/String" "value" "[B") (.int (Int32.ofNat 3))) (.int 59)) (by decide +kernel)
    · have hj2 : j < 3 := hj
      rcases (by omega : j = 0 ∨ j = 1 ∨ j = 2) with rfl | rfl | rfl
      · exact hs (Cond.eq (.elem (.field (.string RX3 47) "java/lang/String" "value" "[B") (.int (Int32.ofNat 0))) (.int 68)) (by decide +kernel)
      · exact hs (Cond.eq (.elem (.field (.string RX3 47) "java/lang/String" "value" "[B") (.int (Int32.ofNat 1))) (.int 68)) (by decide +kernel)
      · exact hs (Cond.eq (.elem (.field (.string RX3 47) "java/lang/String" "value" "[B") (.int (Int32.ofNat 2))) (.int 59)) (by decide +kernel)
    · have hj2 : j < 2 := hj
      rcases (by omega : j = 0 ∨ j = 1) with rfl | rfl
      · exact hs (Cond.eq (.elem (.field (.string RX3 49) "java/lang/String" "value" "[B") (.int (Int32.ofNat 0))) (.int 68)) (by decide +kernel)
      · exact hs (Cond.eq (.elem (.field (.string RX3 49) "java/lang/String" "value" "[B") (.int (Int32.ofNat 1))) (.int 59)) (by decide +kernel)
    · exact absurd hj (Nat.not_lt_zero _)
  · rcases (by omega : i = 0 ∨ i = 1 ∨ i = 2 ∨ i = 3 ∨ i = 4 ∨ i = 5) with rfl | rfl | rfl | rfl | rfl | rfl
    · rcases (by omega : j = 0 ∨ j = 1 ∨ j = 2 ∨ j = 3 ∨ j = 4 ∨ j = 5) with rfl | rfl | rfl | rfl | rfl | rfl
      · exact absurd rfl hij
      · exact Or.inr (hs (Cond.not (Cond.eq (.string RX3 43) (.string RX3 53))) (by decide +kernel))
      · exact Or.inr (hs (Cond.not (Cond.eq (.string RX3 45) (.string RX3 53))) (by decide +kernel))
      · exact Or.inr (hs (Cond.not (Cond.eq (.string RX3 47) (.string RX3 53))) (by decide +kernel))
      · exact Or.inr (hs (Cond.not (Cond.eq (.string RX3 49) (.string RX3 53))) (by decide +kernel))
      · exact Or.inr (hs (Cond.not (Cond.eq (.string RX3 51) (.string RX3 53))) (by decide +kernel))
    · rcases (by omega : j = 0 ∨ j = 1 ∨ j = 2 ∨ j = 3 ∨ j = 4 ∨ j = 5) with rfl | rfl | rfl | rfl | rfl | rfl
      · exact Or.inl (hs (Cond.not (Cond.eq (.string RX3 43) (.string RX3 53))) (by decide +kernel))
      · exact absurd rfl hij
      · exact Or.inl (hs (Cond.not (Cond.eq (.string RX3 43) (.string RX3 45))) (by decide +kernel))
      · exact Or.inl (hs (Cond.not (Cond.eq (.string RX3 43) (.string RX3 47))) (by decide +kernel))
      · exact Or.inl (hs (Cond.not (Cond.eq (.string RX3 43) (.string RX3 49))) (by decide +kernel))
      · exact Or.inl (hs (Cond.not (Cond.eq (.string RX3 43) (.string RX3 51))) (by decide +kernel))
    · rcases (by omega : j = 0 ∨ j = 1 ∨ j = 2 ∨ j = 3 ∨ j = 4 ∨ j = 5) with rfl | rfl | rfl | rfl | rfl | rfl
      · exact Or.inl (hs (Cond.not (Cond.eq (.string RX3 45) (.string RX3 53))) (by decide +kernel))
      · exact Or.inr (hs (Cond.not (Cond.eq (.string RX3 43) (.string RX3 45))) (by decide +kernel))
      · exact absurd rfl hij
      · exact Or.inl (hs (Cond.not (Cond.eq (.string RX3 45) (.string RX3 47))) (by decide +kernel))
      · exact Or.inl (hs (Cond.not (Cond.eq (.string RX3 45) (.string RX3 49))) (by decide +kernel))
      · exact Or.inl (hs (Cond.not (Cond.eq (.string RX3 45) (.string RX3 51))) (by decide +kernel))
    · rcases (by omega : j = 0 ∨ j = 1 ∨ j = 2 ∨ j = 3 ∨ j = 4 ∨ j = 5) with rfl | rfl | rfl | rfl | rfl | rfl
      · exact Or.inl (hs (Cond.not (Cond.eq (.string RX3 47) (.string RX3 53))) (by decide +kernel))
      · exact Or.inr (hs (Cond.not (Cond.eq (.string RX3 43) (.string RX3 47))) (by decide +kernel))
      · exact Or.inr (hs (Cond.not (Cond.eq (.string RX3 45) (.string RX3 47))) (by decide +kernel))
      · exact absurd rfl hij
      · exact Or.inl (hs (Cond.not (Cond.eq (.string RX3 47) (.string RX3 49))) (by decide +kernel))
      · exact Or.inl (hs (Cond.not (Cond.eq (.string RX3 47) (.string RX3 51))) (by decide +kernel))
    · rcases (by omega : j = 0 ∨ j = 1 ∨ j = 2 ∨ j = 3 ∨ j = 4 ∨ j = 5) with rfl | rfl | rfl | rfl | rfl | rfl
      · exact Or.inl (hs (Cond.not (Cond.eq (.string RX3 49) (.string RX3 53))) (by decide +kernel))
      · exact Or.inr (hs (Cond.not (Cond.eq (.string RX3 43) (.string RX3 49))) (by decide +kernel))
      · exact Or.inr (hs (Cond.not (Cond.eq (.string RX3 45) (.string RX3 49))) (by decide +kernel))
      · exact Or.inr (hs (Cond.not (Cond.eq (.string RX3 47) (.string RX3 49))) (by decide +kernel))
      · exact absurd rfl hij
      · exact Or.inl (hs (Cond.not (Cond.eq (.string RX3 49) (.string RX3 51))) (by decide +kernel))
    · rcases (by omega : j = 0 ∨ j = 1 ∨ j = 2 ∨ j = 3 ∨ j = 4 ∨ j = 5) with rfl | rfl | rfl | rfl | rfl | rfl
      · exact Or.inl (hs (Cond.not (Cond.eq (.string RX3 51) (.string RX3 53))) (by decide +kernel))
      · exact Or.inr (hs (Cond.not (Cond.eq (.string RX3 43) (.string RX3 51))) (by decide +kernel))
      · exact Or.inr (hs (Cond.not (Cond.eq (.string RX3 45) (.string RX3 51))) (by decide +kernel))
      · exact Or.inr (hs (Cond.not (Cond.eq (.string RX3 47) (.string RX3 51))) (by decide +kernel))
      · exact Or.inr (hs (Cond.not (Cond.eq (.string RX3 49) (.string RX3 51))) (by decide +kernel))
      · exact absurd rfl hij
set_option maxHeartbeats 8000000 in
set_option maxRecDepth 100000 in
/-- the loop, in the world that the constructors leave -/
theorem whole_loop {p : Program} {e : Env} {s : State} {m : MethodId} {below : List Frame} {meth : Method} {c : Code} (l : Launch) {b L : Nat} {xs : Nat → Int32} (hL : L ≤ 2048) (C0 : lw_At p s m meth c b L xs) (g : nG) (hK : va_K g.1 vwCl [(g.2.1, .int), (g.2.2, .array .int)] s) (hZN : ∀ q ∈ zNW, va_Nw (.methodLinkNest q.1 q.2.1 q.2.2.1 q.2.2.2) s) (adK adV : Nat → Nat) (hStr : vk_S 6 zLen zByt adK adV (fun q : Nat => s.heap.size ≤ q) s s.heap) (hEv : ∀ i : Nat, i < 6 → (zTm i).eval #[Value.ref b] s none [] s = some (.ref (adK i))) (hCO : va_Z "java/lang/String" "COMPACT_STRINGS" "Z" (.int 1) (fun q : Nat => s.heap.size ≤ q) s s.heap) (hSI : va_Zq "jdk/internal/util/Preconditions" "SIOOBE_FORMATTER" "Ljava/util/function/BiFunction;" (fun q : Nat => s.heap.size ≤ q) s s.heap) (h5 h6 : Nat) (u5 u6 : Nat → Nat) {H : Heap} {locs : List Loc} {ls : Array Slot} (hP : va_P g.1 vwCl (zW (g.1, g.2.1, g.2.2, zAd h5 u5 h6 u6 b adK adV) zM0) H) (hD : ∀ μ : zM, va_D (fun q : Nat => s.heap.size ≤ q) (zW (g.1, g.2.1, g.2.2, zAd h5 u5 h6 u6 b adK adV) μ)) (hS : va_S (fun q : Nat => s.heap.size ≤ q) s.heap H locs) (hl : lv_has ls 4 [(3, .int 0), (2, .ref h6), (1, .ref h5), (0, .ref b)]) : W p l e room_1 s m #[Value.ref b] below meth c H locs 68 1081 (lw_Z below #[Value.ref b] s) (F0 m 18 ls []) := by
  obtain ⟨hx, hb, hr, hml, hown, hts, hX, hbl, hlocks, hgv⟩ := id C0
  have hbig : ∀ w ∈ zBIG, w ∈ lw_tbl := fun w h => (List.mem_filter.mp h).1
  have ht : ∀ (i : Nat) (w : Cond), tables_1[i]? = some w → w.before #[Value.ref b] s = true := fun i w h => hts w (List.mem_append_right _ (List.mem_of_getElem? h))
  have hSL : ∀ q ∈ zSL, vk_R RX3 q.1 q.2.1 (zAd h5 u5 h6 u6 b adK adV (70 + q.2.2)) s := List.forall_mem_cons.mpr ⟨vk_R.of (ht 264 (Cond.stringRef RX3 53 "metshw") (by decide +kernel)) (hEv 0 (by decide)), List.forall_mem_cons.mpr ⟨vk_R.of (ht 204 (Cond.stringRef RX3 43 "KD;") (by decide +kernel)) (hEv 1 (by decide)), List.forall_mem_cons.mpr ⟨vk_R.of (ht 205 (Cond.stringRef RX3 45 "DDD;") (by decide +kernel)) (hEv 2 (by decide)), List.forall_mem_cons.mpr ⟨vk_R.of (ht 206 (Cond.stringRef RX3 47 "DD;") (by decide +kernel)) (hEv 3 (by decide)), List.forall_mem_cons.mpr ⟨vk_R.of (ht 207 (Cond.stringRef RX3 49 "D;") (by decide +kernel)) (hEv 4 (by decide)), List.forall_mem_cons.mpr ⟨vk_R.of (ht 208 (Cond.stringRef RX3 51 "") (by decide +kernel)) (hEv 5 (by decide)), fun _ h => absurd h List.not_mem_nil⟩⟩⟩⟩⟩⟩
  have e70 : ∀ i : Nat, i < 6 → zAd h5 u5 h6 u6 b adK adV (70 + i) = adK i := fun i hi => by
    unfold zAd
    rw [if_neg (by omega), if_neg (by omega), if_pos (by omega), show 70 + i - 70 = i by omega]
  have e80 : ∀ i : Nat, i < 6 → zAd h5 u5 h6 u6 b adK adV (80 + i) = adV i := fun i hi => by
    unfold zAd
    rw [if_neg (by omega), if_neg (by omega), if_neg (by omega), show 80 + i - 80 = i by omega]
  have hSt : vk_S 6 zLen zByt (fun i => zAd h5 u5 h6 u6 b adK adV (70 + i)) (fun i => zAd h5 u5 h6 u6 b adK adV (80 + i)) (fun q : Nat => s.heap.size ≤ q) s s.heap := by
    refine ⟨fun i hi => ?_, fun i j hi hj e => hStr.2 i j hi hj ?_⟩
    · have h := hStr.1 i hi
      rw [← e70 i hi, ← e80 i hi] at h
      exact h
    · have e2 : zAd h5 u5 h6 u6 b adK adV (70 + i) = zAd h5 u5 h6 u6 b adK adV (70 + j) := e
      rw [e70 i hi, e70 j hj] at e2
      exact e2
  have C : zC (p, l, e, room_1, s, m, #[Value.ref b], below, meth, c, lw_Z below #[Value.ref b] s, (fun q : Nat => s.heap.size ≤ q), (g.1, g.2.1, g.2.2, zAd h5 u5 h6 u6 b adK adV), 68, 1081) 4 cL_law RL lw_tbl 13 494 := ⟨hx, hb, hml, hown, hts, hbig, fun q h => h, hD _, ⟨hK, hZN, hSL, hSt, hCO, hSI⟩, Nat.le_refl _, Nat.le_refl _, Nat.le_of_ble_eq_true rfl, Nat.le_of_ble_eq_true rfl⟩
  have hSc : zSc (p, l, e, room_1, s, m, #[Value.ref b], below, meth, c, lw_Z below #[Value.ref b] s, (fun q : Nat => s.heap.size ≤ q), (g.1, g.2.1, g.2.2, zAd h5 u5 h6 u6 b adK adV), 68, 1081) b L xs := ⟨hX, hbl, Nat.not_le.mpr hbl, rfl⟩
  have HE : ∀ {pc : Nat} {μ : zM} {L : List (Nat × zV)}, decode cL_law pc = .ok (.ireturn, 1) → zJ (p, l, e, room_1, s, m, #[Value.ref b], below, meth, c, lw_Z below #[Value.ref b] s, (fun q : Nat => s.heap.size ≤ q), (g.1, g.2.1, g.2.2, zAd h5 u5 h6 u6 b adK adV), 68, 1081) 4 μ pc L [.inl 1] := by
    intro pc μ L d _ H1 locs1 ls1 hP1 hS1 hl1
    refine va_forget (fun q hq => hS1.2.2 q hq) ?_
    refine W.widen (k := 600000) (n := 7302249) (Nat.le_of_ble_eq_true rfl) (Nat.le_of_ble_eq_true rfl) ?_
    have h1 : ([Sum.inl 1] : List zV).map (zv (g.1, g.2.1, g.2.2, zAd h5 u5 h6 u6 b adK adV)) = [.int 1] := by
      show [Value.int (iI 1)] = _
      rw [show iI 1 = 1 by decide]
    rw [h1]
    exact lw_ret hx hb hr hlocks d
  have hl2 : lv_has ls 4 [(0, .ref b), (1, .ref h5), (2, .ref h6), (3, .int (iI 0))] := by
    rw [iI_0]
    exact lv_sub hl [3, 2, 1, 0] rfl
  exact law_loop C hSc hL HE zM0 zS0 zM0_Cl zM0_Rf zS0_ok zM0_R H locs ls hP hS hl2
set_option maxHeartbeats 8000000 in
set_option maxRecDepth 100000 in
/-- behind the classes -/
theorem whole_go {p : Program} {e : Env} {s : State} {m : MethodId} {below : List Frame} {meth : Method} {c : Code} (l : Launch) {b L : Nat} {xs : Nat → Int32} (hL : L ≤ 2048) (C0 : lw_At p s m meth c b L xs) (g : nG) (hK : va_K g.1 vwCl [(g.2.1, .int), (g.2.2, .array .int)] s) : W p l e room_1 s m #[Value.ref b] below meth c s.heap [] 0 0 (lw_Z below #[Value.ref b] s) (entryFrame m ([Value.ref b] : List Value).toArray 4) := by
  obtain ⟨hx, hb, hr, hml, hown, hts, hX, hbl, hlocks, hgv⟩ := id C0
  have hbig : ∀ w ∈ zBIG, w ∈ lw_tbl := fun w h => (List.mem_filter.mp h).1
  have ht : ∀ (i : Nat) (w : Cond), tables_1[i]? = some w → w.before #[Value.ref b] s = true := fun i w h => hts w (List.mem_append_right _ (List.mem_of_getElem? h))
  have hs := flat_of_before _ hgv
  have hA0 : ∀ a : Nat, a < s.heap.size → ¬ (fun q : Nat => s.heap.size ≤ q) a := fun a h => Nat.not_le.mpr h
  obtain ⟨adK, adV, hStr, hEv⟩ := z_strs (A := fun q : Nat => s.heap.size ≤ q) hgv hA0
  have hCO : va_Z "java/lang/String" "COMPACT_STRINGS" "Z" (.int 1) (fun q : Nat => s.heap.size ≤ q) s s.heap := va_Zof (ht 222 (Cond.laysStatic "java/lang/String" "COMPACT_STRINGS" "Z") (by decide +kernel)) (ht 8 (Cond.initialized "java/lang/String") (by decide +kernel)) (va_eqt (hs (Cond.eq (.static "java/lang/String" "COMPACT_STRINGS" "Z") (.int 1)) (by decide +kernel))) hA0
  have hSI : va_Zq "jdk/internal/util/Preconditions" "SIOOBE_FORMATTER" "Ljava/util/function/BiFunction;" (fun q : Nat => s.heap.size ≤ q) s s.heap := va_Zqof (ht 238 (Cond.laysStatic "jdk/internal/util/Preconditions" "SIOOBE_FORMATTER" "Ljava/util/function/BiFunction;") (by decide +kernel)) (ht 10 (Cond.initialized "jdk/internal/util/Preconditions") (by decide +kernel)) (hs (Cond.isRef (.static "jdk/internal/util/Preconditions" "SIOOBE_FORMATTER" "Ljava/util/function/BiFunction;")) (by decide +kernel)) hA0
  have hNW : ∀ q ∈ nNW, va_Nw (.methodLinkNest RX5 q.1 q.2 RX5) s := List.forall_mem_cons.mpr ⟨va_Nw.of rfl (ht 26 (Cond.methodLinkNest RX5 9 yX4_init RX5) (by decide +kernel)), List.forall_mem_cons.mpr ⟨va_Nw.of rfl (ht 70 (Cond.methodLinkNest RX5 28 yX3_init RX5) (by decide +kernel)), List.forall_mem_cons.mpr ⟨va_Nw.of rfl (ht 84 (Cond.methodLinkNest RX5 35 yX2_init RX5) (by decide +kernel)), List.forall_mem_cons.mpr ⟨va_Nw.of rfl (ht 113 (Cond.methodLinkNest RX5 42 yX1_init RX5) (by decide +kernel)), List.forall_mem_cons.mpr ⟨va_Nw.of rfl (ht 134 (Cond.methodLinkNest RX5 49 yX0_init RX5) (by decide +kernel)), fun _ h => absurd h List.not_mem_nil⟩⟩⟩⟩⟩
  have hZN : ∀ q ∈ zNW, va_Nw (.methodLinkNest q.1 q.2.1 q.2.2.1 q.2.2.2) s := List.forall_mem_cons.mpr ⟨va_Nw.of rfl (ht 591 (Cond.methodLinkNest RX0 31 yX5_otherStart RX5) (by decide +kernel)), List.forall_mem_cons.mpr ⟨va_Nw.of rfl (ht 520 (Cond.methodLinkNest RX1 37 yX5_bitOf RX5) (by decide +kernel)), List.forall_mem_cons.mpr ⟨va_Nw.of rfl (ht 519 (Cond.methodLinkNest RX1 59 yX5_otherStart RX5) (by decide +kernel)), List.forall_mem_cons.mpr ⟨va_Nw.of rfl (ht 503 (Cond.methodLinkNest RX1 66 yX5_sideOf RX5) (by decide +kernel)), List.forall_mem_cons.mpr ⟨va_Nw.of rfl (ht 410 (Cond.methodLinkNest RX2 54 yX5_sideOf RX5) (by decide +kernel)), List.forall_mem_cons.mpr ⟨va_Nw.of rfl (ht 411 (Cond.methodLinkNest RX2 58 yX5_otherStart RX5) (by decide +kernel)), List.forall_mem_cons.mpr ⟨va_Nw.of rfl (ht 437 (Cond.methodLinkNest RX2 74 yX5_bitOf RX5) (by decide +kernel)), List.forall_mem_cons.mpr ⟨va_Nw.of rfl (ht 383 (Cond.methodLinkNest RX3 97 yX5_isLaw RX5) (by decide +kernel)), List.forall_mem_cons.mpr ⟨va_Nw.of rfl (ht 371 (Cond.methodLinkNest RX4 40 yX5_sideOf RX5) (by decide +kernel)), List.forall_mem_cons.mpr ⟨va_Nw.of rfl (ht 650 (Cond.methodLinkNest RX4 67 yX5_otherStart RX5) (by decide +kernel)), fun _ h => absurd h List.not_mem_nil⟩⟩⟩⟩⟩⟩⟩⟩⟩⟩
  have hE : nE g s := ⟨hK, hNW, nAO_of (ht 89 (Cond.arrayOver (.array .int)) (by decide +kernel))⟩
  have N : nC (p, l, e, room_1, s, m, #[Value.ref b], below, meth, c, lw_Z below #[Value.ref b] s, (fun q : Nat => s.heap.size ≤ q), g) 4 cL_law RL lw_tbl 13 600000 7302249 494 := ⟨hx, hb, hml, hown, hts, hbig, fun q h => h, hE, Nat.le_refl _, Nat.le_refl _, Nat.le_refl _, Nat.le_refl _⟩
  have J : nJ (p, l, e, room_1, s, m, #[Value.ref b], below, meth, c, lw_Z below #[Value.ref b] s, (fun q : Nat => s.heap.size ≤ q), g) 4 [] 0 0 0 [(0, .ref b)] [] := by
    refine n_new N (ci := 5) (q := (RX5, TX5, 11)) (fs := [.null, .null, .null, .int 0, .null, .null, .null, .null, .null, .int 0, .null]) rfl inB5 tyX5 tyX5_ok (fun j hj => by rcases (by have hj2 : j < 11 := hj; omega : j = 0 ∨ j = 1 ∨ j = 2 ∨ j = 3 ∨ j = 4 ∨ j = 5 ∨ j = 6 ∨ j = 7 ∨ j = 8 ∨ j = 9 ∨ j = 10) with rfl | rfl | rfl | rfl | rfl | rfl | rfl | rfl | rfl | rfl | rfl <;> rfl) dL_law_0 (zB_t 16 (by decide +kernel) rfl) (zB_t 17 (by decide +kernel) rfl) (zB_t 1 (by decide +kernel) rfl) (by decide) (by decide) (fun h5 => ?_)
    refine n_dup N dL_law_3 ?_
    refine n_initP N (c_X5_init l) rfl (zB_t 20 (by decide +kernel) rfl) (zB_t 1 (by decide +kernel) rfl) ⟨by decide +kernel, by decide +kernel, by decide +kernel⟩ (zB_t 19 (by decide +kernel) rfl) (zB_t 18 (by decide +kernel) rfl) dL_law_4 (Nat.le_of_ble_eq_true rfl) (by decide) (by decide) (by decide) (fun u5 => ?_)
    refine n_astore N dL_law_7 (by decide) (L' := [(1, .ref h5), (0, .ref b)]) rfl ?_
    refine n_new N (ci := 6) (q := (RX6, TX6, 35)) (fs := [.int 0, .int 0, .int 0, .int 0, .int 0, .int 0, .int 0, .null, .null, .null, .null, .null, .null, .int 0, .int 0, .int 0, .int 0, .int 0, .null, .null, .null, .null, .null, .null, .int 0, .null, .int 0, .int 0, .int 0, .int 0, .int 0, .int 0, .null, .null, .null]) rfl inB6 tyX6 tyX6_ok (fun j hj => by rcases (by have hj2 : j < 35 := hj; omega : j = 0 ∨ j = 1 ∨ j = 2 ∨ j = 3 ∨ j = 4 ∨ j = 5 ∨ j = 6 ∨ j = 7 ∨ j = 8 ∨ j = 9 ∨ j = 10 ∨ j = 11 ∨ j = 12 ∨ j = 13 ∨ j = 14 ∨ j = 15 ∨ j = 16 ∨ j = 17 ∨ j = 18 ∨ j = 19 ∨ j = 20 ∨ j = 21 ∨ j = 22 ∨ j = 23 ∨ j = 24 ∨ j = 25 ∨ j = 26 ∨ j = 27 ∨ j = 28 ∨ j = 29 ∨ j = 30 ∨ j = 31 ∨ j = 32 ∨ j = 33 ∨ j = 34) with rfl | rfl | rfl | rfl | rfl | rfl | rfl | rfl | rfl | rfl | rfl | rfl | rfl | rfl | rfl | rfl | rfl | rfl | rfl | rfl | rfl | rfl | rfl | rfl | rfl | rfl | rfl | rfl | rfl | rfl | rfl | rfl | rfl | rfl | rfl <;> rfl) dL_law_8 (zB_t 670 (by decide +kernel) rfl) (zB_t 671 (by decide +kernel) rfl) (zB_t 7 (by decide +kernel) rfl) (by decide) (by decide) (fun h6 => ?_)
    refine n_dup N dL_law_11 ?_
    refine n_initP N (c_X6_init l) rfl (zB_t 674 (by decide +kernel) rfl) (zB_t 7 (by decide +kernel) rfl) ⟨by decide +kernel, by decide +kernel, by decide +kernel⟩ (zB_t 673 (by decide +kernel) rfl) (zB_t 672 (by decide +kernel) rfl) dL_law_12 (Nat.le_of_ble_eq_true rfl) (by decide) (by decide) (by decide) (fun u6 => ?_)
    refine n_astore N dL_law_15 (by decide) (L' := [(2, .ref h6), (1, .ref h5), (0, .ref b)]) rfl ?_
    refine n_iconst N dL_law_16 (v := 0) (by decide) ?_
    refine n_istore N dL_law_17 (by decide) (L' := [(3, .int 0), (2, .ref h6), (1, .ref h5), (0, .ref b)]) rfl ?_
    intro H locs ls hP hD hS hl
    have hPz := zst_P (g := g) (b := b) (adK := adK) (adV := adV) hP
    have hDz := fun μ => zst_D (g := g) (b := b) (adK := adK) (adV := adV) hD hP μ
    exact whole_loop l hL C0 g hK hZN adK adV hStr hEv hCO hSI h5 h6 u5 u6 hPz hDz hS hl
  have hl := lv_entry ([.ref b]) (n := 4) (Nat.le_of_ble_eq_true rfl)
  rw [lg_entry_eq]
  exact J s.heap [] _ (fun k q h => by simp at h) ⟨fun i j p q h => by simp at h, fun k q h => by simp at h⟩ va_S.rf hl
