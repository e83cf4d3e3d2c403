/-! the environment, contracts, the judgement zJ, and its rows -/
def zE (G : zG) (A : Nat → Prop) (U : State) (H : Heap) : Prop :=
  va_K G.1 vwCl [(G.2.1, .int), (G.2.2.1, .array .int)] U ∧ (∀ q ∈ zNW, va_Nw (.methodLinkNest q.1 q.2.1 q.2.2.1 q.2.2.2) U) ∧ (∀ q ∈ zSL, vk_R RX3 q.1 q.2.1 (G.2.2.2 (70 + q.2.2)) U) ∧ vk_S 6 zLen zByt (fun i => G.2.2.2 (70 + i)) (fun i => G.2.2.2 (80 + i)) A U H ∧ va_Z "java/lang/String" "COMPACT_STRINGS" "Z" (.int 1) A U H ∧ va_Zq "jdk/internal/util/Preconditions" "SIOOBE_FORMATTER" "Ljava/util/function/BiFunction;" A U H
theorem zE_calling {G : zG} {A : Nat → Prop} {U : State} {g : JFrame} {mk : MethodId} {a : Array Value} (h : zE G A U U.heap) : zE G A (U.calling g mk a) (U.calling g mk a).heap :=
  ⟨va_K.moved (u := U) (U := U.calling g mk a) (Vm.Alike.refl U.vm) h.1, fun q hq => va_Nw.same rfl (u := U) (U := U.calling g mk a) rfl (h.2.1 q hq), fun q hq => vk_R.same (u := U) (U := U.calling g mk a) rfl (h.2.2.1 q hq), vk_S.moved (u := U) (U := U.calling g mk a) (Vm.Alike.refl U.vm) h.2.2.2.1, va_Z.moved (u := U) (U := U.calling g mk a) (Vm.Alike.refl U.vm) h.2.2.2.2.1, va_Zq.moved (u := U) (U := U.calling g mk a) (Vm.Alike.refl U.vm) h.2.2.2.2.2⟩
theorem zE_call {G : zG} {A A1 : Nat → Prop} {s U : State} {H : Heap} {locs : List Loc} (h : zE G A s s.heap) (hS : va_S A s.heap H locs) (hle : ∀ q, A1 q → A q) (hU : U.heap = H) (hW : s.WarmedH U.vm) : zE G A1 U U.heap := by
  rw [hU]
  exact ⟨va_K.moved hW.alike h.1, fun q hq => va_Nw.warmM hW (h.2.1 q hq), fun q hq => vk_R.warm hW (h.2.2.1 q hq), ((vk_S.kept h.2.2.2.1 hS.2.1).narrow hle).moved hW.alike, ((va_Z.kept h.2.2.2.2.1 hS.2.1).narrow hle).moved hW.alike, ((va_Zq.kept h.2.2.2.2.2 hS.2.1).narrow hle).moved hW.alike⟩
/-- the words of every contract: the tables' good ones -/
noncomputable def zBIG : List Cond := lw_tbl.filter goodWord
theorem zB_of {w : Cond} (h : w ∈ lw_tbl) (g : goodWord w = true) : w ∈ zBIG := List.mem_filter.mpr ⟨h, g⟩
theorem zB_t {w : Cond} (i : Nat) (h : tables_1[i]? = some w) (g : goodWord w = true) : w ∈ zBIG := zB_of (List.mem_append_right _ (List.mem_of_getElem? h)) g
theorem zB_s {w : Cond} (i : Nat) (h : (k2_sels lw_privs)[i]? = some w) (g : goodWord w = true) : w ∈ zBIG := zB_of (List.mem_append_left _ (List.mem_of_getElem? h)) g
theorem zB_r {ws : List Cond} (ps : List Nat) (hp : ws = ps.filterMap (fun i => tables_1[i]?)) (h : ws.all goodWord = true) : ∀ w ∈ ws, w ∈ zBIG := by
  intro w hw
  have h1 := List.all_eq_true.mp h w hw
  rw [hp] at hw
  obtain ⟨i, -, hi⟩ := List.mem_filterMap.mp hw
  exact zB_t i hi h1
theorem zB_good {w : Cond} (h : w ∈ zBIG) : goodWord w = true := (List.mem_filter.mp h).2
theorem zB_G {c0 : Cond} {ws : List Cond} (h : ∀ w ∈ ws, w ∈ zBIG) : GoodIn (c0 :: zBIG) ws := fun w hw => ⟨List.mem_cons_of_mem _ (h w hw), good_of_word (zB_good (h w hw))⟩
noncomputable def zws (y : MethodName) (cc : ByteArray) (n : Nat) (ret : Option FieldType) : List Cond := .code y cc n ret :: zBIG
/-- the start of a contract -/
def zPc (G : zG) (sz : Nat) (as : List zV) (μ : zM) : Array Value → State → Prop := va_Pc (as.map (zv G)) (fun U => U.heap.size = sz ∧ va_P G.1 vwCl (zW G μ) U.heap ∧ va_D (fun _ => True) (zW G μ) ∧ zE G (zA G sz) U U.heap)
abbrev zrm (f n : Nat) : Room := { frames := f, cells := 0, slots := 0, locals := n }
/-- a contract with an int for an answer; nothing; a reference to a fixed cell -/
def zMi (l : Launch) (y : MethodName) (cc : ByteArray) (nL : Nat) (ty : FieldType) (f nw : Nat) (as : List zV) (μ : zM) (post : Int → zM → Prop) : Prop :=
  ∀ (G : zG) (sz : Nat), zRM μ → Met l y (zws y cc nL (some ty)) (zrm f nw) (zPc G sz as μ) (va_Qi (fun (r : Int32) (u : Int × zM) => r = iI u.1 ∧ zR u.1 ∧ zRM u.2 ∧ post u.1 u.2) (fun u t => va_P G.1 vwCl (zW G u.2) t.heap) (zA G sz)) 0 0 (zA G sz)
def zMv (l : Launch) (y : MethodName) (cc : ByteArray) (nL : Nat) (f nw : Nat) (as : List zV) (μ : zM) (post : zM → Prop) : Prop :=
  ∀ (G : zG) (sz : Nat), zRM μ → Met l y (zws y cc nL none) (zrm f nw) (zPc G sz as μ) (va_Qv (fun (u : zM) => zRM u ∧ post u) (fun u t => va_P G.1 vwCl (zW G u) t.heap) (zA G sz)) 0 0 (zA G sz)
def zMr (l : Launch) (y : MethodName) (cc : ByteArray) (nL : Nat) (ty : FieldType) (f nw : Nat) (as : List zV) (μ : zM) (post : Nat → zM → Prop) : Prop :=
  ∀ (G : zG) (sz : Nat), zRM μ → Met l y (zws y cc nL (some ty)) (zrm f nw) (zPc G sz as μ) (va_Qr (fun (u : Nat × zM) => zRM u.2 ∧ post u.1 u.2) (fun u a t => a = G.2.2.2 u.1 ∧ va_P G.1 vwCl (zW G u.2) t.heap) (zA G sz)) 0 0 (zA G sz)
/-- a walk: all that stays the same in it -/
abbrev zX : Type := Program × Launch × Env × Room × State × MethodId × Array Value × List Frame × Method × Code × (State → Prop) × (Nat → Prop) × zG × Nat × Nat
def zl (X : zX) : Launch := X.2.1
def zlv (G : zG) (q : Nat × zV) : Nat × Value := (q.1, zv G q.2)
def zJ (X : zX) (nL : Nat) (μ : zM) (pc : Nat) (L : List (Nat × zV)) (st : List zV) : Prop := match X with
  | (p, l, e, R, s, m, args, below, meth, c, Q, A, G, cells, slots) => zRM μ → ∀ (H : Heap) (locs : List Loc) (ls : Array Slot), va_P G.1 vwCl (zW G μ) H → va_S A s.heap H locs → lv_has ls nL (L.map (zlv G)) → W p l e R s m args below meth c H locs cells slots Q (F0 m pc ls (st.map (zv G)))
def zC (X : zX) (nL : Nat) (cc : ByteArray) (own : String) (Ts : List Cond) (f nw : Nat) : Prop := match X with
  | (p, _, _, R, s, m, args, _, _, c, _, A, G, cells, slots) => p.tables.exec = Jvm.exec ∧ c.code = cc ∧ c.maxLocals = nL ∧ s.vm.findClass own = some m.cls ∧ (∀ w ∈ Ts, w.before args s = true) ∧ (∀ w ∈ zBIG, w ∈ Ts) ∧ (∀ q, s.heap.size ≤ q → A q) ∧ va_D A (zW G (fun _ _ => 0)) ∧ zE G A s s.heap ∧ (f ≤ R.frames ∧ nw ≤ R.locals ∧ cells ≤ R.cells ∧ slots ≤ R.slots)
/-- a local, set -/
def zput (i : Nat) (v : zV) : List (Nat × zV) → List (Nat × zV)
  | [] => [(i, v)]
  | q :: t => match Nat.beq q.1 i with
    | true => (i, v) :: t.filter (fun q => !(Nat.beq q.1 i))
    | false => q :: zput i v t
theorem zput_mem {i : Nat} {v : zV} {q : Nat × zV} : ∀ {l : List (Nat × zV)}, q ∈ zput i v l → q = (i, v) ∨ (q ∈ l ∧ ¬ q.1 = i)
  | [], h => by
    left
    simpa [zput] using h
  | p :: t, h => by
    unfold zput at h
    cases hb : Nat.beq p.1 i with
    | true =>
      rw [hb] at h
      rcases List.mem_cons.mp h with h | h
      · exact Or.inl h
      · obtain ⟨h1, h2⟩ := List.mem_filter.mp h
        refine Or.inr ⟨List.mem_cons_of_mem _ h1, fun e => ?_⟩
        rw [e] at h2
        simp at h2
    | false =>
      rw [hb] at h
      rcases List.mem_cons.mp h with h | h
      · subst h
        exact Or.inr ⟨List.mem_cons_self, fun e => by rw [e] at hb; simp at hb⟩
      · rcases zput_mem h with h | ⟨h1, h2⟩
        · exact Or.inl h
        · exact Or.inr ⟨List.mem_cons_of_mem _ h1, h2⟩
theorem zput_has {G : zG} {ls : Array Slot} {nL i : Nat} {v : zV} {L : List (Nat × zV)} (h : lv_has ls nL ((i, zv G v) :: (L.map (zlv G)).filter (fun q => !(q.1 == i) && !(q.1 + 1 == i && q.2.category == 2)))) : lv_has ls nL ((zput i v L).map (zlv G)) := by
  refine ⟨h.1, h.2.1, fun q hq => ?_⟩
  obtain ⟨q0, h0, rfl⟩ := List.mem_map.mp hq
  refine h.2.2 _ ?_
  rcases zput_mem h0 with rfl | ⟨h1, h2⟩
  · exact List.mem_cons_self
  · refine List.mem_cons_of_mem _ (List.mem_filter.mpr ⟨List.mem_map.mpr ⟨q0, h1, rfl⟩, ?_⟩)
    have hc : (zv G q0.2).category = 1 := zv_cat G q0.2
    simp [zlv, h2, hc]
section ZR1
variable {X : zX} {nL : Nat} {cc : ByteArray} {own : String} {Ts : List Cond} {f nw : Nat} {μ : zM} {pc : Nat} {L L' : List (Nat × zV)} {st : List zV}
theorem z_iconst (C : zC X nL cc own Ts f nw) {n : Int} (d : decode cc pc = .ok (.iconst n, 1)) (K : zJ X nL μ (pc + 1) L (.inl n :: st)) : zJ X nL μ pc L st := by
  obtain ⟨p, l, e, R, s, m, args, below, meth, c, Q, A, G, cells, slots⟩ := X
  obtain ⟨hx, hb, -⟩ := C
  intro hr H locs ls hP hS hl
  exact lv_iconst hx hb d rfl (K hr H locs ls hP hS hl)
theorem z_bipush (C : zC X nL cc own Ts f nw) {n : Int} (d : decode cc pc = .ok (.bipush n, 2)) (hn : (Int8.ofInt n).toInt32 = iI n) (K : zJ X nL μ (pc + 2) L (.inl n :: st)) : zJ X nL μ pc L st := by
  obtain ⟨p, l, e, R, s, m, args, below, meth, c, Q, A, G, cells, slots⟩ := X
  obtain ⟨hx, hb, -⟩ := C
  intro hr H locs ls hP hS hl
  exact lv_bipush hx hb d hn (K hr H locs ls hP hS hl)
theorem z_sipush (C : zC X nL cc own Ts f nw) {n : Int} (d : decode cc pc = .ok (.sipush n, 3)) (hn : (Int16.ofInt n).toInt32 = iI n) (K : zJ X nL μ (pc + 3) L (.inl n :: st)) : zJ X nL μ pc L st := by
  obtain ⟨p, l, e, R, s, m, args, below, meth, c, Q, A, G, cells, slots⟩ := X
  obtain ⟨hx, hb, -⟩ := C
  intro hr H locs ls hP hS hl
  exact lv_sipush hx hb d hn (K hr H locs ls hP hS hl)
theorem z_ldc (C : zC X nL cc own Ts f nw) {k : Nat} {n : Int} (d : decode cc pc = .ok (.ldc k, 2)) (hw : Cond.constant own k (iI n) ∈ zBIG) (K : zJ X nL μ (pc + 2) L (.inl n :: st)) : zJ X nL μ pc L st := by
  obtain ⟨p, l, e, R, s, m, args, below, meth, c, Q, A, G, cells, slots⟩ := X
  obtain ⟨hx, hb, -, hown, hts, hbig, -⟩ := C
  intro hr H locs ls hP hS hl
  exact lv_ldc hx hb hown (hts _ (hbig _ hw)) d (K hr H locs ls hP hS hl)
theorem z_ldcw (C : zC X nL cc own Ts f nw) {k : Nat} {n : Int} (d : decode cc pc = .ok (.ldc_w k, 3)) (hw : Cond.constant own k (iI n) ∈ zBIG) (K : zJ X nL μ (pc + 3) L (.inl n :: st)) : zJ X nL μ pc L st := by
  obtain ⟨p, l, e, R, s, m, args, below, meth, c, Q, A, G, cells, slots⟩ := X
  obtain ⟨hx, hb, -, hown, hts, hbig, -⟩ := C
  intro hr H locs ls hP hS hl
  exact lv_ldcw hx hb hown (hts _ (hbig _ hw)) d (K hr H locs ls hP hS hl)
theorem z_at {G : zG} {ls : Array Slot} (hl : lv_has ls nL (L.map (zlv G))) (k : Nat) {i : Nat} {v : zV} (h : L[k]? = some (i, v)) : ls[i]? = some (.val (zv G v)) := lv_at hl k (by rw [List.getElem?_map, h]; rfl)
theorem z_iload_n (C : zC X nL cc own Ts f nw) {k : Fin 4} {z : Int} (d : decode cc pc = .ok (.iload_n k, 1)) (j : Nat) (h : L[j]? = some ((k : Nat), .inl z)) (K : zJ X nL μ (pc + 1) L (.inl z :: st)) : zJ X nL μ pc L st := by
  obtain ⟨p, l, e, R, s, m, args, below, meth, c, Q, A, G, cells, slots⟩ := X
  obtain ⟨hx, hb, -⟩ := C
  intro hr H locs ls hP hS hl
  exact lv_iload_n hx hb d rfl (z_at hl j h) (K hr H locs ls hP hS hl)
theorem z_iload (C : zC X nL cc own Ts f nw) {k : Nat} {z : Int} (d : decode cc pc = .ok (.iload k, 2)) (j : Nat) (h : L[j]? = some (k, .inl z)) (K : zJ X nL μ (pc + 2) L (.inl z :: st)) : zJ X nL μ pc L st := by
  obtain ⟨p, l, e, R, s, m, args, below, meth, c, Q, A, G, cells, slots⟩ := X
  obtain ⟨hx, hb, -⟩ := C
  intro hr H locs ls hP hS hl
  exact lv_iload hx hb d (z_at hl j h) (K hr H locs ls hP hS hl)
theorem z_aload_n (C : zC X nL cc own Ts f nw) {k : Fin 4} {i : Nat} (d : decode cc pc = .ok (.aload_n k, 1)) (j : Nat) (h : L[j]? = some ((k : Nat), .inr i)) (K : zJ X nL μ (pc + 1) L (.inr i :: st)) : zJ X nL μ pc L st := by
  obtain ⟨p, l, e, R, s, m, args, below, meth, c, Q, A, G, cells, slots⟩ := X
  obtain ⟨hx, hb, -⟩ := C
  intro hr H locs ls hP hS hl
  exact lv_aload_n hx hb d rfl (z_at hl j h) (K hr H locs ls hP hS hl)
theorem z_istore_n (C : zC X nL cc own Ts f nw) {k : Fin 4} {z : Int} (d : decode cc pc = .ok (.istore_n k, 1)) (hn : (k : Nat) < nL) (hL : zput (k : Nat) (.inl z) L = L') (K : zJ X nL μ (pc + 1) L' st) : zJ X nL μ pc L (.inl z :: st) := by
  obtain ⟨p, l, e, R, s, m, args, below, meth, c, Q, A, G, cells, slots⟩ := X
  obtain ⟨hx, hb, -⟩ := C
  intro hr H locs ls hP hS hl
  subst hL
  exact lv_istore_n hx hb d rfl hl hn rfl (fun ls' hl' => K hr H locs ls' hP hS (zput_has (v := .inl z) hl'))
theorem z_istore (C : zC X nL cc own Ts f nw) {k : Nat} {z : Int} (d : decode cc pc = .ok (.istore k, 2)) (hn : k < nL) (hL : zput k (.inl z) L = L') (K : zJ X nL μ (pc + 2) L' st) : zJ X nL μ pc L (.inl z :: st) := by
  obtain ⟨p, l, e, R, s, m, args, below, meth, c, Q, A, G, cells, slots⟩ := X
  obtain ⟨hx, hb, -⟩ := C
  intro hr H locs ls hP hS hl
  subst hL
  exact lv_istore hx hb d hl hn rfl (fun ls' hl' => K hr H locs ls' hP hS (zput_has (v := .inl z) hl'))
theorem z_astore_n (C : zC X nL cc own Ts f nw) {k : Fin 4} {i : Nat} (d : decode cc pc = .ok (.astore_n k, 1)) (hn : (k : Nat) < nL) (hL : zput (k : Nat) (.inr i) L = L') (K : zJ X nL μ (pc + 1) L' st) : zJ X nL μ pc L (.inr i :: st) := by
  obtain ⟨p, l, e, R, s, m, args, below, meth, c, Q, A, G, cells, slots⟩ := X
  obtain ⟨hx, hb, -⟩ := C
  intro hr H locs ls hP hS hl
  subst hL
  exact lv_astore_n hx hb d rfl hl hn rfl (fun ls' hl' => K hr H locs ls' hP hS (zput_has (v := .inr i) hl'))
theorem z_iinc (C : zC X nL cc own Ts f nw) {k : Nat} {n z : Int} (d : decode cc pc = .ok (.iinc k n, 3)) (j : Nat) (h : L[j]? = some (k, .inl z)) (hn : k < nL) (hL : zput k (.inl (z + n)) L = L') (K : zJ X nL μ (pc + 3) L' st) : zJ X nL μ pc L st := by
  obtain ⟨p, l, e, R, s, m, args, below, meth, c, Q, A, G, cells, slots⟩ := X
  obtain ⟨hx, hb, -⟩ := C
  intro hr H locs ls hP hS hl
  subst hL
  exact lv_iinc hx hb d hl (k := j) (x := iI z) (v := iI (z + n)) (by rw [List.getElem?_map, h]; rfl) (iI_add z n) hn rfl (fun ls' hl' => K hr H locs ls' hP hS (zput_has (v := .inl (z + n)) hl'))
theorem z_iadd (C : zC X nL cc own Ts f nw) {a b : Int} (d : decode cc pc = .ok (.iadd, 1)) (K : zJ X nL μ (pc + 1) L (.inl (a + b) :: st)) : zJ X nL μ pc L (.inl b :: .inl a :: st) := by
  obtain ⟨p, l, e, R, s, m, args, below, meth, c, Q, A, G, cells, slots⟩ := X
  obtain ⟨hx, hb, -⟩ := C
  intro hr H locs ls hP hS hl
  refine lv_iadd (x := iI a) (y := iI b) hx hb d ?_
  rw [iI_add]
  exact K hr H locs ls hP hS hl
theorem z_isub (C : zC X nL cc own Ts f nw) {a b : Int} (d : decode cc pc = .ok (.isub, 1)) (K : zJ X nL μ (pc + 1) L (.inl (a - b) :: st)) : zJ X nL μ pc L (.inl b :: .inl a :: st) := by
  obtain ⟨p, l, e, R, s, m, args, below, meth, c, Q, A, G, cells, slots⟩ := X
  obtain ⟨hx, hb, -⟩ := C
  intro hr H locs ls hP hS hl
  refine lv_isub (x := iI a) (y := iI b) hx hb d ?_
  rw [iI_sub]
  exact K hr H locs ls hP hS hl
theorem z_imul (C : zC X nL cc own Ts f nw) {a b : Int} (d : decode cc pc = .ok (.imul, 1)) (K : zJ X nL μ (pc + 1) L (.inl (a * b) :: st)) : zJ X nL μ pc L (.inl b :: .inl a :: st) := by
  obtain ⟨p, l, e, R, s, m, args, below, meth, c, Q, A, G, cells, slots⟩ := X
  obtain ⟨hx, hb, -⟩ := C
  intro hr H locs ls hP hS hl
  refine lv_imul (x := iI a) (y := iI b) hx hb d ?_
  rw [iI_mul]
  exact K hr H locs ls hP hS hl
theorem z_ineg (C : zC X nL cc own Ts f nw) {a : Int} (d : decode cc pc = .ok (.ineg, 1)) (K : zJ X nL μ (pc + 1) L (.inl (-a) :: st)) : zJ X nL μ pc L (.inl a :: st) := by
  obtain ⟨p, l, e, R, s, m, args, below, meth, c, Q, A, G, cells, slots⟩ := X
  obtain ⟨hx, hb, -⟩ := C
  intro hr H locs ls hP hS hl
  refine lv_ineg (x := iI a) hx hb d ?_
  rw [iI_neg]
  exact K hr H locs ls hP hS hl
theorem z_idiv (C : zC X nL cc own Ts f nw) {a b : Int} (d : decode cc pc = .ok (.idiv, 1)) (h : (0 ≤ a ∧ a < 2147483648) ∧ 0 < b ∧ b < 2147483648) (K : zJ X nL μ (pc + 1) L (.inl (a / b) :: st)) : zJ X nL μ pc L (.inl b :: .inl a :: st) := by
  obtain ⟨p, l, e, R, s, m, args, below, meth, c, Q, A, G, cells, slots⟩ := X
  obtain ⟨hx, hb, -⟩ := C
  intro hr H locs ls hP hS hl
  have ha : zR a := ⟨by omega, by omega⟩
  have hb' : zR b := ⟨by omega, by omega⟩
  refine lv_idiv (x := iI a) (y := iI b) hx hb d (fun z => by rw [← iI_0, iI_eq hb' ⟨by omega, by omega⟩] at z; omega) ?_
  rw [iI_div ha hb' h.1.1 h.2.1]
  exact K hr H locs ls hP hS hl
theorem z_irem (C : zC X nL cc own Ts f nw) {a b : Int} (d : decode cc pc = .ok (.irem, 1)) (h : (0 ≤ a ∧ a < 2147483648) ∧ 0 < b ∧ b < 2147483648) (K : zJ X nL μ (pc + 1) L (.inl (a % b) :: st)) : zJ X nL μ pc L (.inl b :: .inl a :: st) := by
  obtain ⟨p, l, e, R, s, m, args, below, meth, c, Q, A, G, cells, slots⟩ := X
  obtain ⟨hx, hb, -⟩ := C
  intro hr H locs ls hP hS hl
  have ha : zR a := ⟨by omega, by omega⟩
  have hb' : zR b := ⟨by omega, by omega⟩
  refine lv_irem (x := iI a) (y := iI b) hx hb d (fun z => by rw [← iI_0, iI_eq hb' ⟨by omega, by omega⟩] at z; omega) ?_
  rw [iI_rem ha hb' h.1.1 h.2.1]
  exact K hr H locs ls hP hS hl
theorem z_iand (C : zC X nL cc own Ts f nw) {a b : Int} (d : decode cc pc = .ok (.iand, 1)) (K : zJ X nL μ (pc + 1) L (.inl (zand a b) :: st)) : zJ X nL μ pc L (.inl b :: .inl a :: st) := by
  obtain ⟨p, l, e, R, s, m, args, below, meth, c, Q, A, G, cells, slots⟩ := X
  obtain ⟨hx, hb, -⟩ := C
  intro hr H locs ls hP hS hl
  refine lv_iand (x := iI a) (y := iI b) hx hb d ?_
  rw [← iI_of (iI a &&& iI b)]
  exact K hr H locs ls hP hS hl
theorem z_ior (C : zC X nL cc own Ts f nw) {a b : Int} (d : decode cc pc = .ok (.ior, 1)) (K : zJ X nL μ (pc + 1) L (.inl (zor a b) :: st)) : zJ X nL μ pc L (.inl b :: .inl a :: st) := by
  obtain ⟨p, l, e, R, s, m, args, below, meth, c, Q, A, G, cells, slots⟩ := X
  obtain ⟨hx, hb, -⟩ := C
  intro hr H locs ls hP hS hl
  refine lv_ior (x := iI a) (y := iI b) hx hb d ?_
  rw [← iI_of (iI a ||| iI b)]
  exact K hr H locs ls hP hS hl
theorem z_ixor (C : zC X nL cc own Ts f nw) {a b : Int} (d : decode cc pc = .ok (.ixor, 1)) (K : zJ X nL μ (pc + 1) L (.inl (zxor a b) :: st)) : zJ X nL μ pc L (.inl b :: .inl a :: st) := by
  obtain ⟨p, l, e, R, s, m, args, below, meth, c, Q, A, G, cells, slots⟩ := X
  obtain ⟨hx, hb, -⟩ := C
  intro hr H locs ls hP hS hl
  refine lv_ixor (x := iI a) (y := iI b) hx hb d ?_
  rw [← iI_of (iI a ^^^ iI b)]
  exact K hr H locs ls hP hS hl
theorem z_ishl (C : zC X nL cc own Ts f nw) {a b : Int} (d : decode cc pc = .ok (.ishl, 1)) (K : zJ X nL μ (pc + 1) L (.inl (zshl a b) :: st)) : zJ X nL μ pc L (.inl b :: .inl a :: st) := by
  obtain ⟨p, l, e, R, s, m, args, below, meth, c, Q, A, G, cells, slots⟩ := X
  obtain ⟨hx, hb, -⟩ := C
  intro hr H locs ls hP hS hl
  refine lv_ishl (x := iI a) (y := iI b) hx hb d ?_
  rw [← iI_of (iI a <<< (iI b &&& 31))]
  exact K hr H locs ls hP hS hl
theorem z_ishr (C : zC X nL cc own Ts f nw) {a b : Int} (d : decode cc pc = .ok (.ishr, 1)) (K : zJ X nL μ (pc + 1) L (.inl (zshr a b) :: st)) : zJ X nL μ pc L (.inl b :: .inl a :: st) := by
  obtain ⟨p, l, e, R, s, m, args, below, meth, c, Q, A, G, cells, slots⟩ := X
  obtain ⟨hx, hb, -⟩ := C
  intro hr H locs ls hP hS hl
  refine lv_ishr (x := iI a) (y := iI b) hx hb d ?_
  rw [← iI_of (iI a >>> (iI b &&& 31))]
  exact K hr H locs ls hP hS hl
theorem z_i2c (C : zC X nL cc own Ts f nw) {a : Int} (d : decode cc pc = .ok (.i2c, 1)) (h : 0 ≤ a ∧ a < 65536) (K : zJ X nL μ (pc + 1) L (.inl a :: st)) : zJ X nL μ pc L (.inl a :: st) := by
  obtain ⟨p, l, e, R, s, m, args, below, meth, c, Q, A, G, cells, slots⟩ := X
  obtain ⟨hx, hb, -⟩ := C
  intro hr H locs ls hP hS hl
  refine lv_i2c (x := iI a) (v := iI a) hx hb d ?_ (K hr H locs ls hP hS hl)
  obtain ⟨n, rfl⟩ : ∃ n : Nat, a = (n : Int) := ⟨a.toNat, by omega⟩
  have e1 : iI (n : Int) = nI n := Int32.ofInt_eq_ofNat
  rw [e1, pk_char, pk_tn (by omega), Nat.mod_eq_of_lt (by omega)]
theorem z_dup (C : zC X nL cc own Ts f nw) {v : zV} (d : decode cc pc = .ok (.dup, 1)) (K : zJ X nL μ (pc + 1) L (v :: v :: st)) : zJ X nL μ pc L (v :: st) := by
  obtain ⟨p, l, e, R, s, m, args, below, meth, c, Q, A, G, cells, slots⟩ := X
  obtain ⟨hx, hb, -⟩ := C
  intro hr H locs ls hP hS hl
  exact lv_dup hx hb d (zv_cat G v) (K hr H locs ls hP hS hl)
theorem z_dup2 (C : zC X nL cc own Ts f nw) {u v : zV} (d : decode cc pc = .ok (.dup2, 1)) (K : zJ X nL μ (pc + 1) L (v :: u :: v :: u :: st)) : zJ X nL μ pc L (v :: u :: st) := by
  obtain ⟨p, l, e, R, s, m, args, below, meth, c, Q, A, G, cells, slots⟩ := X
  obtain ⟨hx, hb, -⟩ := C
  intro hr H locs ls hP hS hl
  exact lv_dup2_11 hx hb d (zv_cat G v) (zv_cat G u) (K hr H locs ls hP hS hl)
theorem z_pop (C : zC X nL cc own Ts f nw) {v : zV} (d : decode cc pc = .ok (.pop, 1)) (K : zJ X nL μ (pc + 1) L st) : zJ X nL μ pc L (v :: st) := by
  obtain ⟨p, l, e, R, s, m, args, below, meth, c, Q, A, G, cells, slots⟩ := X
  obtain ⟨hx, hb, -⟩ := C
  intro hr H locs ls hP hS hl
  exact lv_pop hx hb d (zv_cat G v) (K hr H locs ls hP hS hl)
theorem z_goto (C : zC X nL cc own Ts f nw) {off : Int} {tgt : Nat} (d : decode cc pc = .ok (.goto off, 3)) (ht : (pc : Int) + off = (tgt : Int)) (K : zJ X nL μ tgt L st) : zJ X nL μ pc L st := by
  obtain ⟨p, l, e, R, s, m, args, below, meth, c, Q, A, G, cells, slots⟩ := X
  obtain ⟨hx, hb, -⟩ := C
  intro hr H locs ls hP hS hl
  exact lv_goto hx hb d ht (K hr H locs ls hP hS hl)
/-- the top named anew; the memory named; the top as the machine holds it -/
theorem z_top {a : Int} (K : ∀ b : Int, b = a → zJ X nL μ pc L (.inl b :: st)) : zJ X nL μ pc L (.inl a :: st) := K a rfl
theorem z_mem (K : ∀ μ' : zM, μ' = μ → zJ X nL μ' pc L st) : zJ X nL μ pc L st := K μ rfl
theorem z_wrap {a : Int} (K : zJ X nL μ pc L (.inl (zw a) :: st)) : zJ X nL μ pc L (.inl a :: st) := by
  obtain ⟨p, l, e, R, s, m, args, below, meth, c, Q, A, G, cells, slots⟩ := X
  intro hr H locs ls hP hS hl
  have h := K hr H locs ls hP hS hl
  have e1 : zv G (.inl (zw a)) = zv G (.inl a) := by
    show Value.int (iI (zw a)) = Value.int (iI a)
    rw [zw_iI]
  rw [List.map_cons, e1] at h
  exact h
theorem z_R (K : zRM μ → zJ X nL μ pc L st) : zJ X nL μ pc L st := by
  obtain ⟨p, l, e, R, s, m, args, below, meth, c, Q, A, G, cells, slots⟩ := X
  intro hr
  exact K hr hr
end ZR1
