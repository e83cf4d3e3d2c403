/-! ===== BEGIN new T[n][m]: the outer array a place, the inner ones among the pooled ===== -/
/-- f, but v at every address of l -/
def vr_up {α : Type} (f : Nat → α) (l : List Nat) (v : α) : Nat → α := fun a => if a ∈ l then v else f a
theorem vr_up_in {α : Type} {f : Nat → α} {l : List Nat} {v : α} {a : Nat} (h : a ∈ l) : vr_up f l v a = v := if_pos h
theorem vr_up_ne {α : Type} {f : Nat → α} {l : List Nat} {v : α} {a : Nat} (h : a ∉ l) : vr_up f l v a = f a := if_neg h
theorem vr_rows {L l : List Nat} {f : Nat → va_E} {e : va_E} (h : ∀ a, a ∈ l → a ∉ L) : va_pl L f ++ l.map (fun a => (a, e)) = va_pl (L ++ l) (vr_up f l e) := by
  unfold va_pl
  rw [List.map_append]
  congr 1
  · apply List.map_congr_left
    intro a ha
    rw [vr_up_ne (fun q => h a q ha)]
  · apply List.map_congr_left
    intro a ha
    rw [vr_up_in ha]
theorem vr_lay {X rows : va_W} {x : Nat × va_E} {pl : va_W} {D : va_G} {cl : List vw_C} {H : Heap} (hP : va_P D cl (((X ++ pl) ++ [x]) ++ rows) H) : va_P D cl ((X ++ [x]) ++ (pl ++ rows)) H := by
  rw [List.append_assoc (X ++ pl)] at hP
  have h := va_P.swap hP
  rw [← List.append_assoc X] at h
  have h2 := va_P.swap h
  rw [List.append_assoc (X ++ [x])] at h2
  exact h2
theorem vr_layD {X rows : va_W} {x : Nat × va_E} {pl : va_W} {A : Nat → Prop} (hD : va_D A (((X ++ pl) ++ [x]) ++ rows)) : va_D A ((X ++ [x]) ++ (pl ++ rows)) := by
  rw [List.append_assoc (X ++ pl)] at hD
  have h := va_D.swap hD
  rw [← List.append_assoc X] at h
  have h2 := va_D.swap h
  rw [List.append_assoc (X ++ [x])] at h2
  exact h2
theorem vr_outer (c : ClassId) (N h0 : Nat) : ∀ i : Nat, Jvm.Free.Multi.outerC c N h0 i = arrV c N (fun j => va_rf (if j < i then some (h0 + 1 + j) else none))
  | 0 => by
    show ({ cls := c, slots := Array.replicate N .null, vm := .none } : Cell) = _
    rw [arrV_new]
    refine congrArg (arrV c N) (funext fun j => ?_)
    simp [va_rf]
  | i + 1 => by
    show (Jvm.Free.Multi.outerC c N h0 i).setSlot i (.ref (h0 + 1 + i)) = _
    rw [vr_outer c N h0 i, arrV_store]
    refine congrArg (arrV c N) (funext fun j => ?_)
    by_cases e : j = i
    · subst e
      simp [updV, va_rf]
    · by_cases h : j < i
      · simp [updV, e, h, Nat.lt_succ_of_lt h]
      · simp [updV, e, h, show ¬ j < i + 1 by omega]
section VGM
variable {p : Program} {l : Launch} {e : Env} {R : Room} {s : State} {m : MethodId} {args : Array Value} {below : List Frame} {meth : Method} {c : Code} {H : Heap} {locs : List Loc} {cells slots : Nat} {Q : State → Prop}
variable {cc : ByteArray} {pc : Nat} {ls : Array Slot} {rest : List Value} {D : va_G} {cl : List vw_C} {A : Nat → Prop} {a : Nat} {tys : List (ClassId × FieldType)} {ws : va_W} {H0 : Heap}
theorem va_mna {X : va_W} {L : List Nat} {f : Nat → va_E} {cc : ByteArray} (hexec : p.tables.exec = Jvm.exec) (hb : c.code = cc) {own : String} {index : Nat} {ty : FieldType} {cy : ClassId} (hown : s.vm.findClass own = some m.cls) (hclink : (Cond.classLink own index ("[" ++ (FieldType.array ty).toString)).before args s = true) (hover : (Cond.arrayOver (.array ty)).before args s = true) (harr : (Cond.arrayClass ty).before args s = true) (hcy : s.vm.findClass (FieldType.array ty).toString = some cy)
    (hK : va_K D cl tys s) (hP : va_P D cl (X ++ va_pl L f) H) (hD : va_D A (X ++ va_pl L f)) (hS : va_S A H0 H locs) (hA : ∀ q, H0.size ≤ q → A q) {n k : Int32} {N' K' : Nat} {z : vp_A} (hn : ¬ n < 0) (hk : ¬ k < 0) (hN : n.toNatClampNeg = N') (hM : k.toNatClampNeg = K')
    (hb1 : N' * 4 ≤ 536870912) (hb2 : K' * componentBytes ty ≤ 536870912) (hb3 : K' ≤ 536870912) (hdf : fits ty (defaultValue ty) = true) (hdd : (defaultValue ty).isDefault = true) (hcells : cells + (1 + N') ≤ R.cells) (hslots : slots + (N' + N' * K') ≤ R.slots) (hz : ∀ c : ClassId, Jvm.Free.Multi.innerC c K' (defaultValue ty) = vp_cell c z) (hdg : decode cc pc = .ok (.multianewarray index 2, 4))
    (kk : ∀ (q : Nat) (r : Nat → Nat) (cA : ClassId) (H1 : Heap), (∀ i j : Nat, i < N' → j < N' → r i = r j → i = j) → (∀ i : Nat, i < N' → r i ∉ L) → va_K D cl (tys ++ [(cA, .array ty)]) s →
      va_P D cl ((X ++ [(q, .inl (cA, N', .inr (.inr (.inr (.inr (fun i => if i < N' then some (r i) else none))))))]) ++ va_pl (L ++ (List.range N').map r) (vr_up f ((List.range N').map r) (.inl (cy, z)))) H1 → va_D A ((X ++ [(q, .inl (cA, N', .inr (.inr (.inr (.inr (fun i => if i < N' then some (r i) else none))))))]) ++ va_pl (L ++ (List.range N').map r) (vr_up f ((List.range N').map r) (.inl (cy, z)))) → va_S A H0 H1 locs →
      W p l e R s m args below meth c H1 locs (cells + 1 + N') (slots + N' + N' * K') Q (F0 m (pc + 4) ls (.ref q :: rest))) : W p l e R s m args below meth c H locs cells slots Q (F0 m pc ls (.int k :: .int n :: rest)) := by
  subst hN
  subst hM
  intro T hT Xs
  obtain ⟨vm₁, cA, comp, -, fA, fC, hO, -, X', step⟩ := Xs.multianewarray2F hexec hown hclink hover harr (g := F0 m pc ls (.int k :: .int n :: rest)) rfl (by rw [hb]; exact hdg) rfl hn hk hb1 hb2 hb3 hdf hdd hcells hslots
  have ec : some cy = some comp := hcy.symm.trans fC
  cases ec
  generalize hF : Jvm.Free.Multi.fill (T.setVm vm₁) cA cy n.toNatClampNeg k.toNatClampNeg (defaultValue ty) n.toNatClampNeg = F at X' step
  have hTh : (T.setVm vm₁).heap = H := hT
  obtain ⟨f1, f2, -, -⟩ := Jvm.Free.Multi.fill_facts (T.setVm vm₁) cA cy n.toNatClampNeg k.toNatClampNeg (defaultValue ty) n.toNatClampNeg
  rw [hF, hTh] at f1 f2
  have hold : ∀ x : Nat, x < H.size → F.heap[x]? = H[x]? := fun x hx => by
    have := Jvm.Free.Multi.fill_old (T.setVm vm₁) cA cy n.toNatClampNeg k.toNatClampNeg (defaultValue ty) (a := x) (by rw [hTh]; exact hx) n.toNatClampNeg
    rw [hF, hTh] at this
    exact this
  have hrow : ∀ j : Nat, j < n.toNatClampNeg → F.heap[H.size + 1 + j]? = some (vp_cell cy z) := fun j hj => by
    have := Jvm.Free.Multi.fill_inner (T.setVm vm₁) cA cy n.toNatClampNeg k.toNatClampNeg (defaultValue ty) n.toNatClampNeg j hj
    rw [hF, hTh, hz] at this
    exact this
  have hout : Jvm.Free.Multi.outerC cA n.toNatClampNeg H.size n.toNatClampNeg = vp_cell cA (n.toNatClampNeg, .inr (.inr (.inr (.inr (fun i => if i < n.toNatClampNeg then some (H.size + 1 + i) else none))))) := by
    rw [vp_cell_q]
    exact vr_outer cA n.toNatClampNeg H.size n.toNatClampNeg
  rw [hout] at f2
  have hlt : ∀ a, a ∈ L → a < H.size := fun a ha => by
    obtain ⟨k9, hk9⟩ := va_pl_get (X := X) (f := f) ha
    exact (hP k9 _ hk9).lt
  have hnl : ∀ i : Nat, i < n.toNatClampNeg → H.size + 1 + i ∉ L := fun i _ h => by
    have := hlt _ h
    omega
  have hnm : ∀ a, a ∈ (List.range n.toNatClampNeg).map (fun i => H.size + 1 + i) → a ∉ L := fun a ha h => by
    obtain ⟨i, -, rfl⟩ := List.mem_map.mp ha
    have := hlt _ h
    omega
  have hP0 : va_P D cl (X ++ va_pl L f) F.heap := hP.kept (fun k9 x hx => hold x.1 ((hP k9 x hx).lt))
  have hP1 : va_P D cl ((X ++ va_pl L f) ++ [(H.size, .inl (cA, n.toNatClampNeg, .inr (.inr (.inr (.inr (fun i => if i < n.toNatClampNeg then some (H.size + 1 + i) else none))))))]) F.heap := hP0.app (fun k9 x hx => by
    have h0 : k9 < 1 := (List.getElem?_eq_some_iff.mp hx).1
    rw [show k9 = 0 by omega] at hx
    cases hx
    exact f2)
  have hP2 : va_P D cl (((X ++ va_pl L f) ++ [(H.size, .inl (cA, n.toNatClampNeg, .inr (.inr (.inr (.inr (fun i => if i < n.toNatClampNeg then some (H.size + 1 + i) else none))))))]) ++ ((List.range n.toNatClampNeg).map (fun i => H.size + 1 + i)).map (fun a => (a, .inl (cy, z)))) F.heap := hP1.app (fun k9 x hx => by
    obtain ⟨a, ha, rfl⟩ := List.mem_map.mp (List.mem_of_getElem? hx)
    obtain ⟨i, hi, rfl⟩ := List.mem_map.mp ha
    exact hrow i (List.mem_range.mp hi))
  have hD2 : va_D A (((X ++ va_pl L f) ++ [(H.size, .inl (cA, n.toNatClampNeg, .inr (.inr (.inr (.inr (fun i => if i < n.toNatClampNeg then some (H.size + 1 + i) else none))))))]) ++ ((List.range n.toNatClampNeg).map (fun i => H.size + 1 + i)).map (fun a => (a, .inl (cy, z)))) := by
    have hD1 := hD.push (e := .inl (cA, n.toNatClampNeg, .inr (.inr (.inr (.inr (fun i => if i < n.toNatClampNeg then some (H.size + 1 + i) else none)))))) hP rfl (hA _ hS.1)
    generalize hW1 : (X ++ va_pl L f) ++ [(H.size, .inl (cA, n.toNatClampNeg, .inr (.inr (.inr (.inr (fun i => if i < n.toNatClampNeg then some (H.size + 1 + i) else none))))))] = W1 at hD1 hP1 ⊢
    have hle : ∀ (k9 : Nat) (x : Nat × va_E), W1[k9]? = some x → x.1 ≤ H.size := fun k9 x hx => by
      rw [← hW1] at hx
      by_cases hl : k9 < (X ++ va_pl L f).length
      · rw [List.getElem?_append_left hl] at hx
        exact Nat.le_of_lt ((hP k9 x hx).lt)
      · rw [List.getElem?_append_right (by omega)] at hx
        have h0 : k9 - (X ++ va_pl L f).length < 1 := (List.getElem?_eq_some_iff.mp hx).1
        rw [show k9 - (X ++ va_pl L f).length = 0 by omega] at hx
        cases hx
        exact Nat.le_refl _
    have hr : ∀ (k9 : Nat) (x : Nat × va_E), (((List.range n.toNatClampNeg).map (fun i => H.size + 1 + i)).map (fun a => ((a, .inl (cy, z)) : Nat × va_E)))[k9]? = some x → x.1 = H.size + 1 + k9 := fun k9 x hx => by
      rw [List.getElem?_map, List.getElem?_map] at hx
      by_cases h9 : k9 < n.toNatClampNeg
      · rw [List.getElem?_range h9] at hx
        cases hx
        rfl
      · have hn0 : (List.range n.toNatClampNeg)[k9]? = none := List.getElem?_eq_none (by rw [List.length_range]; omega)
        rw [hn0] at hx
        cases hx
    refine ⟨fun i j x y hi hj hxy => ?_, fun k9 x hx => ?_⟩
    · by_cases h1 : i < W1.length <;> by_cases h2 : j < W1.length
      · rw [List.getElem?_append_left h1] at hi
        rw [List.getElem?_append_left h2] at hj
        exact hD1.1 i j x y hi hj hxy
      · rw [List.getElem?_append_left h1] at hi
        rw [List.getElem?_append_right (by omega)] at hj
        have := hle _ _ hi
        have := hr _ _ hj
        omega
      · rw [List.getElem?_append_right (by omega)] at hi
        rw [List.getElem?_append_left h2] at hj
        have := hle _ _ hj
        have := hr _ _ hi
        omega
      · rw [List.getElem?_append_right (by omega)] at hi hj
        have := hr _ _ hi
        have := hr _ _ hj
        omega
    · by_cases h1 : k9 < W1.length
      · rw [List.getElem?_append_left h1] at hx
        exact hD1.2 k9 x hx
      · rw [List.getElem?_append_right (by omega)] at hx
        have := hr _ _ hx
        exact hA _ (by have := hS.1; omega)
  have hAr : ArrOfT s cA (.array ty) := fun N9 z9 => by
    obtain ⟨-, k9, hk9, cm9, hkk9⟩ := (hO 0 0 0).1
    exact ⟨(fun q hq => by cases hq), k9, hk9, cm9, hkk9⟩
  have hK2 : va_K D cl (tys ++ [(cA, .array ty)]) s := ⟨hK.1, fun k9 x hx => by
    by_cases hl : k9 < tys.length
    · rw [List.getElem?_append_left hl] at hx
      exact hK.2 k9 x hx
    · rw [List.getElem?_append_right (by omega)] at hx
      have h0 : k9 - tys.length < 1 := (List.getElem?_eq_some_iff.mp hx).1
      rw [show k9 - tys.length = 0 by omega] at hx
      cases hx
      exact ⟨hAr, fA⟩⟩
  obtain ⟨t, a1, b1⟩ := kk H.size (fun i => H.size + 1 + i) cA F.heap (fun i j _ _ h => by have h9 : H.size + 1 + i = H.size + 1 + j := h; omega) hnl hK2 (by rw [← vr_rows hnm]; exact vr_lay hP2) (by rw [← vr_rows hnm]; exact vr_layD hD2) ⟨by rw [f1]; have := hS.1; omega, fun x h1 h2 => (hold x (Nat.lt_of_lt_of_le h1 hS.1)).trans (hS.2.1 x h1 h2), hS.2.2⟩ F rfl X'
  refine ⟨t, step t ?_, b1⟩
  have e : T.heap.size = H.size := by rw [hT]
  rw [e]
  exact a1
end VGM
/-! ===== END ===== -/
/-! worlds in the making: constructors -/
abbrev nG : Type := va_G × ClassId × ClassId
def nNW : List (Nat × MethodName) := [(9, yX4_init), (28, yX3_init), (35, yX2_init), (42, yX1_init), (49, yX0_init)]
def nAO (U : State) : Prop := (Cond.arrayOver (.array .int)).before #[] U = true
theorem nAO_of {A : Array Value} {U : State} (h : (Cond.arrayOver (.array .int)).before A U = true) : nAO U := h
theorem nAO_use {A : Array Value} {U : State} (h : nAO U) : (Cond.arrayOver (.array .int)).before A U = true := h
theorem nAO_same {u U : State} (hv : u.vm = U.vm) (h : nAO u) : nAO U := by
  unfold nAO Cond.before Cond.holds Cond.value at h ⊢
  rw [← hv]
  exact h
def nE (g : nG) (U : State) : Prop := va_K g.1 vwCl [(g.2.1, .int), (g.2.2, .array .int)] U ∧ (∀ q ∈ nNW, va_Nw (.methodLinkNest RX5 q.1 q.2 RX5) U) ∧ nAO U
theorem nE_calling {gg : nG} {U : State} {g : JFrame} {mk : MethodId} {a : Array Value} (h : nE gg U) : nE gg (U.calling g mk a) := ⟨va_K.moved (u := U) (U := U.calling g mk a) (Vm.Alike.refl U.vm) h.1, fun q hq => va_Nw.same rfl (u := U) (U := U.calling g mk a) rfl (h.2.1 q hq), nAO_same (u := U) (U := U.calling g mk a) rfl h.2.2⟩
theorem nE_call {g : nG} {s U : State} (h : nE g s) (hW : s.WarmedH U.vm) : nE g U := ⟨va_K.moved hW.alike h.1, fun q hq => va_Nw.warmM hW (h.2.1 q hq), nAO_same (u := s.setVm U.vm) (U := U) rfl ((Cond.arrayOver_setVmC (args := #[]) hW.alike (.array .int)).trans h.2.2)⟩
abbrev nX : Type := Program × Launch × Env × Room × State × MethodId × Array Value × List Frame × Method × Code × (State → Prop) × (Nat → Prop) × nG
def nl (X : nX) : Launch := X.2.1
def ng (X : nX) : nG := X.2.2.2.2.2.2.2.2.2.2.2.2
def nJ (X : nX) (nL : Nat) (ws : va_W) (cl sl pc : Nat) (L : List (Nat × Value)) (st : List Value) : Prop := match X with
  | (p, l, e, R, s, m, args, below, meth, c, Q, A, g) => ∀ (H : Heap) (locs : List Loc) (ls : Array Slot), va_P g.1 vwCl ws H → va_D A ws → va_S A s.heap H locs → lv_has ls nL L → W p l e R s m args below meth c H locs cl sl Q (F0 m pc ls st)
def nC (X : nX) (nL : Nat) (cc : ByteArray) (own : String) (Ts : List Cond) (f C S nw : Nat) : Prop := match X with
  | (p, _, _, R, s, m, args, _, meth, c, _, A, g) => p.tables.exec = Jvm.exec ∧ c.code = cc ∧ c.maxLocals = nL ∧ s.vm.findClass own = some m.cls ∧ (∀ w ∈ Ts, w.before args s = true) ∧ (∀ w ∈ zBIG, w ∈ Ts) ∧ (∀ q, s.heap.size ≤ q → A q) ∧ nE g s ∧ (f ≤ R.frames ∧ nw ≤ R.locals ∧ C ≤ R.cells ∧ S ≤ R.slots)
def nIn (X : nX) : Prop := match X with
  | (_, _, _, _, _, _, _, _, meth, _, _, _, _) => meth.name = "<init>"
section NR1
variable {X : nX} {nL : Nat} {cc : ByteArray} {own : String} {Ts : List Cond} {f C S nw : Nat} {ws : va_W} {cl sl pc : Nat} {L L' : List (Nat × Value)} {st : List Value}
theorem n_eq {ws' : va_W} (h : ws = ws') (K : nJ X nL ws' cl sl pc L st) : nJ X nL ws cl sl pc L st := by rw [h]; exact K
theorem n_iconst (N : nC X nL cc own Ts f C S nw) {n : Int} {v : Int32} (d : decode cc pc = .ok (.iconst n, 1)) (hv : Int32.ofInt n = v) (K : nJ X nL ws cl sl (pc + 1) L (.int v :: st)) : nJ X nL ws cl sl pc L st := by
  obtain ⟨p, l, e, R, s, m, args, below, meth, c, Q, A, g⟩ := X
  obtain ⟨hx, hb, -⟩ := N
  intro H locs ls hP hD hS hl
  exact lv_iconst hx hb d hv (K H locs ls hP hD hS hl)
theorem n_bipush (N : nC X nL cc own Ts f C S nw) {n : Int} {v : Int32} (d : decode cc pc = .ok (.bipush n, 2)) (hv : (Int8.ofInt n).toInt32 = v) (K : nJ X nL ws cl sl (pc + 2) L (.int v :: st)) : nJ X nL ws cl sl pc L st := by
  obtain ⟨p, l, e, R, s, m, args, below, meth, c, Q, A, g⟩ := X
  obtain ⟨hx, hb, -⟩ := N
  intro H locs ls hP hD hS hl
  exact lv_bipush hx hb d hv (K H locs ls hP hD hS hl)
theorem n_aload (N : nC X nL cc own Ts f C S nw) {k : Fin 4} {a : Nat} (d : decode cc pc = .ok (.aload_n k, 1)) (j : Nat) (h : L[j]? = some ((k : Nat), .ref a)) (K : nJ X nL ws cl sl (pc + 1) L (.ref a :: st)) : nJ X nL ws cl sl pc L st := by
  obtain ⟨p, l, e, R, s, m, args, below, meth, c, Q, A, g⟩ := X
  obtain ⟨hx, hb, -⟩ := N
  intro H locs ls hP hD hS hl
  exact lv_aload_n hx hb d rfl (lv_at hl j h) (K H locs ls hP hD hS hl)
theorem n_dup (N : nC X nL cc own Ts f C S nw) {a : Nat} (d : decode cc pc = .ok (.dup, 1)) (K : nJ X nL ws cl sl (pc + 1) L (.ref a :: .ref a :: st)) : nJ X nL ws cl sl pc L (.ref a :: st) := by
  obtain ⟨p, l, e, R, s, m, args, below, meth, c, Q, A, g⟩ := X
  obtain ⟨hx, hb, -⟩ := N
  intro H locs ls hP hD hS hl
  exact lv_dup hx hb d rfl (K H locs ls hP hD hS hl)
/-- Object.<init> -/
theorem n_obj (N : nC X nL cc own Ts f C S nw) {idx a : Nat} (d : decode cc pc = .ok (.invokespecial idx, 3)) (h1 : Cond.methodLink own idx objectInit ∈ zBIG) (h2 : Cond.instanceMethod objectInit ∈ zBIG) (h3 : Cond.code objectInit ⟨#[0xb1]⟩ 1 none ∈ zBIG) (hf : 1 ≤ f) (hw : 20 ≤ nw) (K : nJ X nL ws cl sl (pc + 3) L []) : nJ X nL ws cl sl pc L [.ref a] := by
  obtain ⟨p, l, e, R, s, m, args, below, meth, c, Q, A, g⟩ := X
  obtain ⟨hx, hb, hml, hown, hts, hbig, hA, hE, hr1, hr2, hr3, hr4⟩ := N
  intro H locs ls hP hD hS hl
  refine W.objInit hx hb hown (hts _ (hbig _ h1)) (hts _ (hbig _ h2)) (hts _ (hbig _ h3)) rfl (by rw [hml]; exact hl.1) rfl d (Nat.le_trans hf hr1) (Nat.le_trans (by show 12 ≤ nw; omega) hr2) ?_
  exact W.eq (g2 := F0 m (pc + 3) ls []) rfl (K H locs ls hP hD hS hl)
/-- new int[n] -/
theorem n_newa (N : nC X nL cc own Ts f C S nw) {n : Int32} {N' : Nat} (d : decode cc pc = .ok (.newarray .int, 2)) (hw : Cond.arrayClass .int ∈ zBIG) (hn : ¬ n < 0) (hN : n.toNatClampNeg = N') (hN2 : N' ≤ 1000) (hC : cl + 1 ≤ C) (hS' : sl + N' ≤ S) (K : ∀ q : Nat, nJ X nL (ws ++ [(q, .inl ((ng X).2.1, N', .inl (fun _ => 0)))]) (cl + 1) (sl + N') (pc + 2) L (.ref q :: st)) : nJ X nL ws cl sl pc L (.int n :: st) := by
  obtain ⟨p, l, e, R, s, m, args, below, meth, c, Q, A, g⟩ := X
  obtain ⟨hx, hb, hml, hown, hts, hbig, hA, hE, hr1, hr2, hr3, hr4⟩ := N
  intro H locs ls hP hD hS hl
  refine va_newa (atype := .int) (ty := .int) (a0 := (N', .inl (fun _ => 0))) hx hb (hts _ (hbig _ hw)) rfl hE.1 hP hD hS hA (fun cA => rfl) hn hN (by show N' * 4 ≤ 536870912; omega) (Nat.le_trans hC hr3) (Nat.le_trans hS' hr4) d (fun q cA H1 hK1 hP1 hD1 hS1 => ?_)
  have e1 : s.vm.findClass ("[" ++ (FieldType.int).toString) = some cA := (hK1.2 2 (cA, .int) rfl).2
  have e2 : s.vm.findClass ("[" ++ (FieldType.int).toString) = some g.2.1 := (hE.1.2 0 (g.2.1, .int) rfl).2
  have e3 : cA = g.2.1 := Option.some.inj (e1.symm.trans e2)
  subst e3
  exact K q H1 locs ls hP1 hD1 hS1 hl
/-- new int[n][k] -/
theorem n_mna (N : nC X nL cc own Ts f C S nw) {idx : Nat} {n k : Int32} {N' K' : Nat} (d : decode cc pc = .ok (.multianewarray idx 2, 4)) (h1 : Cond.classLink own idx "[[I" ∈ zBIG) (hw : Cond.arrayClass .int ∈ zBIG) (hn : ¬ n < 0) (hk : ¬ k < 0) (hN : n.toNatClampNeg = N') (hM : k.toNatClampNeg = K') (hN2 : N' ≤ 1000) (hM2 : K' ≤ 1000) (hC : cl + 1 + N' ≤ C) (hS' : sl + N' + N' * K' ≤ S)
    (K : ∀ (q : Nat) (r : Nat → Nat), nJ X nL (ws ++ ((q, .inl ((ng X).2.2, N', .inr (.inr (.inr (.inr (fun i => ((List.range N').map r)[i]?)))))) :: (List.range N').map (fun i => (r i, .inl ((ng X).2.1, K', .inl (fun _ => 0)))))) (cl + 1 + N') (sl + N' + N' * K') (pc + 4) L (.ref q :: st)) : nJ X nL ws cl sl pc L (.int k :: .int n :: st) := by
  obtain ⟨p, l, e, R, s, m, args, below, meth, c, Q, A, g⟩ := X
  obtain ⟨hx, hb, hml, hown, hts, hbig, hA, hE, hr1, hr2, hr3, hr4⟩ := N
  intro H locs ls hP hD hS hl
  have e2 : s.vm.findClass ("[" ++ (FieldType.int).toString) = some g.2.1 := (hE.1.2 0 (g.2.1, .int) rfl).2
  have e4 : s.vm.findClass ("[" ++ (FieldType.array .int).toString) = some g.2.2 := (hE.1.2 1 (g.2.2, .array .int) rfl).2
  refine va_mna (X := ws) (L := []) (f := fun _ => .inl (g.2.1, K', .inl (fun _ => 0))) (z := (K', .inl (fun _ => 0))) (cy := g.2.1) (ty := .int) hx hb hown (hts _ (hbig _ h1)) (nAO_use hE.2.2) (hts _ (hbig _ hw)) e2 hE.1 (by show va_P g.1 vwCl (ws ++ []) H; rw [List.append_nil]; exact hP) (by show va_D A (ws ++ []); rw [List.append_nil]; exact hD) hS hA hn hk hN hM (by omega) (by show K' * 4 ≤ 536870912; omega) (by omega) rfl rfl (by have := Nat.le_trans hC hr3; omega) (by have := Nat.le_trans hS' hr4; omega) (fun c => arrV_new c K' (.int 0)) d (fun q r cA H1 hri hrn hK1 hP1 hD1 hS1 => ?_)
  have e1 : s.vm.findClass ("[" ++ (FieldType.array .int).toString) = some cA := (hK1.2 2 (cA, .array .int) rfl).2
  have e3 : cA = g.2.2 := Option.some.inj (e1.symm.trans e4)
  subst e3
  have e5 : ∀ (F : Nat → va_E), va_pl ([] ++ (List.range N').map r) (vr_up F ((List.range N').map r) (.inl (g.2.1, K', .inl (fun _ => 0)))) = (List.range N').map (fun i => (r i, .inl (g.2.1, K', .inl (fun _ => 0)))) := fun F => by
    rw [← vr_rows (fun a _ h => by cases h)]
    rw [show va_pl [] F = [] from rfl]
    rw [List.nil_append, List.map_map]
    rfl
  have e6 : (fun i => if i < N' then some (r i) else none) = (fun i => ((List.range N').map r)[i]?) := funext fun i => by
    rw [List.getElem?_map]
    by_cases h : i < N'
    · rw [if_pos h, List.getElem?_range h]
      rfl
    · rw [if_neg h, List.getElem?_eq_none (by rw [List.length_range]; omega)]
      rfl
  rw [e5, e6, List.append_assoc] at hP1 hD1
  exact K q r H1 locs ls hP1 hD1 hS1 hl
/-- a field put in a constructor -/
theorem n_put (N : nC X nL cc own Ts f C S nw) (I : nIn X) {idx ci k q0 a : Nat} {fs : List Value} {v : Value} (F : zF own idx ci k) {q : vw_C} (hq : vwCl[ci]? = some q) (hno : q.1 = own) (hty : ∃ ty0 : Nat → FieldType, (∀ k, k < q.2.2 → parseFieldDescriptor (q.2.1 k).2.2.1 = some (ty0 k)) ∧ ∃ ty, ty0 k = ty ∧ narrow ty v = v ∧ fits ty v = true) (hnm : ∀ a, a < q.2.2 → ∀ b, b < q.2.2 → a ≠ b → (q.2.1 a).2.1 ≠ (q.2.1 b).2.1) (hdecl : (q.2.1 k).1 = own) (d : decode cc pc = .ok (.putfield idx, 3)) (he : ws[q0]? = some (a, .inr (ci, fs))) (hl0 : k < fs.length) (K : nJ X nL (ws.set q0 (a, .inr (ci, fs.set k v))) cl sl (pc + 3) L st) : nJ X nL ws cl sl pc L (v :: .ref a :: st) := by
  obtain ⟨p, l, e, R, s, m, args, below, meth, c, Q, A, g⟩ := X
  obtain ⟨hx, hb, hml, hown, hts, hbig, hA, hE, hr1, hr2, hr3, hr4⟩ := N
  intro H locs ls hP hD hS hl
  obtain ⟨q', hq', hk, hin, hlink⟩ := F
  have e1 : q' = q := Option.some.inj (hq'.symm.trans hq)
  subst e1
  obtain ⟨ty0, ht, ty, et, hn, hfit⟩ := hty
  have hd := ht k hk
  rw [et] at hd
  cases hfin : (q'.2.1 k).2.2.2 with
  | false => exact va_put (C := q'.1) (T := q'.2.1) (N := q'.2.2) hx hb hts (fun w hw => hbig _ (hin w hw)) ty0 ht hnm hown hE.1 hP hD hS q0 he hq k hk (hts _ (hbig _ hlink)) (fun _ h9 => h9) hfin hd hn hfit hl0 d (fun H1 locs1 hP1 hD1 hS1 => K H1 locs1 ls hP1 hD1 hS1 hl)
  | true => exact va_putF (C := q'.1) (T := q'.2.1) (N := q'.2.2) hx hb hts (fun w hw => hbig _ (hin w hw)) ty0 ht hnm hown hE.1 hP hD hS q0 he hq k hk (hts _ (hbig _ hlink)) (fun _ h9 => h9) hfin I hdecl hd hn hfit hl0 d (fun H1 locs1 hP1 hD1 hS1 => K H1 locs1 ls hP1 hD1 hS1 hl)
/-- new C -/
theorem n_new (N : nC X nL cc own Ts f C S nw) {idx ci : Nat} {q : vw_C} {fs : List Value} (hq : vwCl[ci]? = some q) (hin : ∀ w ∈ u_ws q.1 q.2.1 q.2.2, w ∈ zBIG) (ty0 : Nat → FieldType) (ht : ∀ k, k < q.2.2 → parseFieldDescriptor (q.2.1 k).2.2.1 = some (ty0 k)) (hfs : ∀ j, j < q.2.2 → defaultValue (ty0 j) = vp_V fs j) (d : decode cc pc = .ok (.new idx, 3)) (h1 : Cond.classLink own idx q.1 ∈ zBIG) (h2 : Cond.instantiable q.1 q.2.2 ∈ zBIG) (h3 : Cond.initialized q.1 ∈ zBIG) (hC : cl + 1 ≤ C) (hS' : sl + q.2.2 ≤ S) (K : ∀ h : Nat, nJ X nL (ws ++ [(h, .inr (ci, fs))]) (cl + 1) (sl + q.2.2) (pc + 3) L (.ref h :: st)) : nJ X nL ws cl sl pc L st := by
  obtain ⟨p, l, e, R, s, m, args, below, meth, c, Q, A, g⟩ := X
  obtain ⟨hx, hb, hml, hown, hts, hbig, hA, hE, hr1, hr2, hr3, hr4⟩ := N
  intro H locs ls hP hD hS hl
  exact va_new (ci := ci) (fs := fs) (C := q.1) (T := q.2.1) (N := q.2.2) hx hb hts (fun w hw => hbig _ (hin w hw)) ty0 ht hown (hts _ (hbig _ h1)) (hts _ (hbig _ h2)) (hts _ (hbig _ h3)) hE.1 hP hD hS hA hq hfs (Nat.le_trans hC hr3) (Nat.le_trans hS' hr4) d (fun h H1 hP1 hD1 hS1 => K h H1 locs ls hP1 hD1 hS1 hl)
end NR1
/-- a constructor's contract: its object at h0, with no values yet; then the world B -/
def nM (l : Launch) (y : MethodName) (cc : ByteArray) (f C S nw ci : Nat) (fs0 : List Value) (B : nG → Nat → (Nat → Nat) → va_W) : Prop := ∀ (g : nG) (h0 sz : Nat), Met l y (zws y cc 1 none) { frames := f, cells := C, slots := S, locals := nw } (va_Pc [.ref h0] (fun U => U.heap.size = sz ∧ va_P g.1 vwCl [(h0, .inr (ci, fs0))] U.heap ∧ va_D (fun _ => True) [(h0, .inr (ci, fs0))] ∧ nE g U)) (va_Qv (fun _ : Nat → Nat => True) (fun q t => va_P g.1 vwCl (B g h0 q) t.heap ∧ va_D (va_A [(h0, .inr (ci, fs0))] sz) (B g h0 q)) (va_A [(h0, .inr (ci, fs0))] sz)) C S (va_A [(h0, .inr (ci, fs0))] sz)
theorem nM_of {l : Launch} {y : MethodName} {cc : ByteArray} {f C S nw ci : Nat} {fs0 : List Value} {B : nG → Nat → (Nat → Nat) → va_W} {own : String} (hy : plainName y.cls = true) (hown : y.cls = own) (hin : y.name = "<init>")
    (body : ∀ (X : nX) (g : nG) (h0 : Nat), nl X = l → ng X = g → nC X 1 cc own (zws y cc 1 none) f C S nw → nIn X → (∀ {pc : Nat} {ws : va_W} {cl sl : Nat} {L : List (Nat × Value)}, decode cc pc = .ok (.return_, 1) → cl ≤ C → sl ≤ S → ∀ q : Nat → Nat, ws = B g h0 q → nJ X 1 ws cl sl pc L []) → nJ X 1 [(h0, .inr (ci, fs0))] 0 0 0 [(0, .ref h0)] []) : nM l y cc f C S nw ci fs0 B := by
  intro g h0 sz
  refine Met.ofW (cc := cc) (maxL := 1) (ret := none) hy rfl ?_
  intro p e s m args below meth c s₁ B0 hml hv
  obtain ⟨rfl, hsz, hP, hD0, hE⟩ := hv
  subst hsz
  have hx := B0.exec
  have hb := B0.bytes
  have hr := B0.returns
  have hlocks := B0.notSynchronized
  have hts := atoms_spec (ws := zws y cc 1 none) B0.pre
  have hcls : s.vm.findClass own = some m.cls := hown ▸ findClass_of_methodNamed B0.named
  have hI : meth.name = "<init>" := ((name_of_methodNamed B0.named B0.method).1).trans hin
  have hl := lv_entry ([.ref h0]) (n := 1) (Nat.le_of_ble_eq_true rfl)
  rw [lg_entry_eq]
  have hD := hD0.self (sz := s.heap.size)
  have hA : ∀ q : Nat, s.heap.size ≤ q → va_A [(h0, .inr (ci, fs0))] s.heap.size q := fun q h => Or.inr h
  have J := body (p, l, e, (headSpec (zws y cc 1 none) { frames := f, cells := C, slots := S, locals := nw }).room, s, m, ([Value.ref h0] : List Value).toArray, below, meth, c, MQ below (va_Qv (fun _ : Nat → Nat => True) (fun q t => va_P g.1 vwCl (B g h0 q) t.heap ∧ va_D (va_A [(h0, .inr (ci, fs0))] s.heap.size) (B g h0 q)) (va_A [(h0, .inr (ci, fs0))] s.heap.size)) ([Value.ref h0] : List Value).toArray s C S (va_A [(h0, .inr (ci, fs0))] s.heap.size), va_A [(h0, .inr (ci, fs0))] s.heap.size, g) g h0 rfl rfl ⟨hx, hb, hml, hcls, hts, fun w hw => List.mem_cons_of_mem _ hw, hA, hE, Nat.le_refl _, Nat.le_refl _, Nat.le_refl _, Nat.le_refl _⟩ hI (by
    intro pc ws cl sl L d hC hS' q hq H locs ls hP hD hS hl
    subst hq
    refine W.widen (k := C) (n := S) hC hS' ?_
    exact W.vret hx hb hr (fun t ht hW => ⟨⟨q, rfl, trivial, by rw [ht]; exact hP, hD⟩, hS.F ht⟩) hS.2.2 d)
  exact J s.heap [] _ hP hD va_S.rf hl
theorem n_join {A0 : Nat → Prop} {D : va_G} {cs : List vw_C} {wr w1 : va_W} {x : Nat × va_E} {H H1 : Heap} (hP : va_P D cs (wr ++ [x]) H) (hD : va_D A0 (wr ++ [x])) (hk : ∀ q : Nat, q < H.size → ¬ va_A [x] H.size q → H1[q]? = H[q]?) (hF : ∀ q, va_A [x] H.size q → A0 q) (hP1 : va_P D cs w1 H1) (hD1 : va_D (va_A [x] H.size) w1) : va_P D cs (wr ++ w1) H1 ∧ va_D A0 (wr ++ w1) := by
  have get : ∀ (k : Nat) (q : Nat × va_E), wr[k]? = some q → (wr ++ [x])[k]? = some q := fun k q h => by
    rw [List.getElem?_append_left (List.getElem?_eq_some_iff.mp h).1]
    exact h
  have hx : (wr ++ [x])[wr.length]? = some x := by simp
  have apart : ∀ (k : Nat) (q : Nat × va_E), wr[k]? = some q → q.1 < H.size ∧ ¬ va_A [x] H.size q.1 := fun k q hq => by
    have hl := (hP k q (get k q hq)).lt
    refine ⟨hl, fun h => ?_⟩
    rcases h with ⟨k2, e, h⟩ | h
    · have h3 : k2 < 1 := (List.getElem?_eq_some_iff.mp h).1
      rw [show k2 = 0 by omega] at h
      have h4 : x = (q.1, e) := Option.some.inj h
      have h5 := hD.1 k wr.length q x (get k q hq) hx (by rw [h4])
      have h6 := (List.getElem?_eq_some_iff.mp hq).1
      omega
    · omega
  refine ⟨va_P.app (fun k q hq => ?_) hP1, va_D.app ⟨fun i j p q hi hj e => hD.1 i j p q (get i p hi) (get j q hj) e, fun k q hq => hD.2 k q (get k q hq)⟩ (hD1.weaken (fun k q _ h => hF q.1 h)) (fun i j p q hi hj hxy => ?_)⟩
  · obtain ⟨g1, g2⟩ := apart k q hq
    exact (hP k q (get k q hq)).kept (hk q.1 g1 g2)
  · exact (apart i p hi).2 (by rw [hxy]; exact hD1.2 j q hj)
section NR2
variable {X : nX} {nL : Nat} {cc : ByteArray} {own : String} {Ts : List Cond} {f C S nw : Nat} {ws : va_W} {cl sl pc : Nat} {L L' : List (Nat × Value)} {st : List Value}
theorem nPc_blind (g : nG) (h0 sz ci : Nat) (fs0 : List Value) : FrameBlind (va_Pc [.ref h0] (fun U => U.heap.size = sz ∧ va_P g.1 vwCl [(h0, .inr (ci, fs0))] U.heap ∧ va_D (fun _ => True) [(h0, .inr (ci, fs0))] ∧ nE g U)) := fun a U gg mk q => by
  obtain ⟨q0, q1, qP, qD, qE⟩ := q
  exact ⟨q0, q1, qP, qD, nE_calling qE⟩
/-- a nest mate's constructor -/
theorem n_initN (N : nC X nL cc own Ts f C S nw) {y : MethodName} {bytes : ByteArray} {idx f2 C2 S2 nw2 ci h : Nat} {fs0 : List Value} {B : nG → Nat → (Nat → Nat) → va_W} (M : nM (nl X) y bytes f2 C2 S2 nw2 ci fs0 B) (hy : y.name = "<init>") (y1 : Cond.code y bytes 1 none ∈ zBIG) (y2 : Cond.initialized y.cls ∈ zBIG) (y3 : y.cls ≠ "java/lang/invoke/MethodHandle" ∧ y.cls ≠ "java/lang/invoke/VarHandle" ∧ (parseMethodDescriptor y.desc).map (fun d => d.parameters.length) = some 0) (y6 : Cond.instanceMethod y ∈ zBIG) (hln : (idx, y) ∈ nNW) (ho : own = RX5) (d : decode cc pc = .ok (.invokespecial idx, 3)) (hst : (st.map fun v => v.category).sum ≤ 8) (hR : f2 + 1 ≤ f ∧ 8 + (1 + 11) + nw2 ≤ nw) (hC : cl + C2 ≤ C) (hS' : sl + S2 ≤ S) (K : ∀ q : Nat → Nat, nJ X nL (ws ++ B (ng X) h q) (cl + C2) (sl + S2) (pc + 3) L st) : nJ X nL (ws ++ [(h, .inr (ci, fs0))]) cl sl pc L (.ref h :: st) := by
  obtain ⟨p, l, e, R, s, m, args, below, meth, c, Q, A, g⟩ := X
  obtain ⟨hx, hb, hml, hown, hts, hbig, hA, hE, hr1, hr2, hr3, hr4⟩ := N
  subst ho
  intro H locs ls hP hD hS hl
  have hC1 : [ws.length].map (fun i => (ws ++ [(h, Sum.inr (ci, fs0))])[i]?) = [((h, Sum.inr (ci, fs0)) : Nat × va_E)].map some := by simp
  have hPc : va_P g.1 vwCl [(h, .inr (ci, fs0))] H := hP.sub [ws.length] (by simp)
  have hDc : va_D A [(h, .inr (ci, fs0))] := hD.sub [ws.length] (by simp [va_nd]) hC1
  have hFc := va_free (wc := [(h, .inr (ci, fs0))]) hD hS hA [ws.length] hC1
  refine va_callv (va_runIN (As := []) (rest := st) (g := F0 m pc ls _) ⟨hx, hb, hml, hown, hts⟩ (M g h H.size) ⟨va_cnB 0 hts (zGood hbig y1) rfl rfl rfl (hE.2.1 (idx, y) hln) (hts _ (hbig _ y2)) y3 ⟨Nat.le_trans hR.1 hr1, Nat.le_trans hR.2 hr2⟩, hy, hts _ (hbig _ y6)⟩ ⟨nPc_blind g h H.size ci fs0, fun U hU hW => ⟨rfl, by rw [hU], by rw [hU]; exact hPc, hDc.weaken (fun _ _ _ _ => trivial), nE_call hE hW⟩⟩ rfl rfl hl.1 rfl (lv_room hst) d ⟨Nat.le_trans hC hr3, Nat.le_trans hS' hr4⟩) hS (fun q _ h => hFc q h) hFc (fun q t H1 locs1 ht hvm hw hB hz1 hk1 hS1 => ?_)
  obtain ⟨hP1, hD1⟩ := hB
  rw [ht] at hP1
  obtain ⟨hP2, hD2⟩ := n_join hP hD hk1 hFc hP1 hD1
  exact K q H1 locs1 ls hP2 hD2 hS1 hl
/-- a constructor that all may call -/
theorem n_initP (N : nC X nL cc own Ts f C S nw) {y : MethodName} {bytes : ByteArray} {idx f2 C2 S2 nw2 ci h : Nat} {fs0 : List Value} {B : nG → Nat → (Nat → Nat) → va_W} (M : nM (nl X) y bytes f2 C2 S2 nw2 ci fs0 B) (hy : y.name = "<init>") (y1 : Cond.code y bytes 1 none ∈ zBIG) (y2 : Cond.initialized y.cls ∈ zBIG) (y3 : y.cls ≠ "java/lang/invoke/MethodHandle" ∧ y.cls ≠ "java/lang/invoke/VarHandle" ∧ (parseMethodDescriptor y.desc).map (fun d => d.parameters.length) = some 0) (y6 : Cond.instanceMethod y ∈ zBIG) (hln : Cond.methodLink own idx y ∈ zBIG) (d : decode cc pc = .ok (.invokespecial idx, 3)) (hst : (st.map fun v => v.category).sum ≤ 8) (hR : f2 + 1 ≤ f ∧ 8 + (1 + 11) + nw2 ≤ nw) (hC : cl + C2 ≤ C) (hS' : sl + S2 ≤ S) (K : ∀ q : Nat → Nat, nJ X nL (ws ++ B (ng X) h q) (cl + C2) (sl + S2) (pc + 3) L st) : nJ X nL (ws ++ [(h, .inr (ci, fs0))]) cl sl pc L (.ref h :: st) := by
  obtain ⟨p, l, e, R, s, m, args, below, meth, c, Q, A, g⟩ := X
  obtain ⟨hx, hb, hml, hown, hts, hbig, hA, hE, hr1, hr2, hr3, hr4⟩ := N
  intro H locs ls hP hD hS hl
  have hC1 : [ws.length].map (fun i => (ws ++ [(h, Sum.inr (ci, fs0))])[i]?) = [((h, Sum.inr (ci, fs0)) : Nat × va_E)].map some := by simp
  have hPc : va_P g.1 vwCl [(h, .inr (ci, fs0))] H := hP.sub [ws.length] (by simp)
  have hDc : va_D A [(h, .inr (ci, fs0))] := hD.sub [ws.length] (by simp [va_nd]) hC1
  have hFc := va_free (wc := [(h, .inr (ci, fs0))]) hD hS hA [ws.length] hC1
  refine va_callv (va_runI (As := []) (rest := st) (g := F0 m pc ls _) ⟨hx, hb, hml, hown, hts⟩ (M g h H.size) ⟨callB_of 0 hts (zGood hbig y1) rfl rfl rfl (hts _ (hbig _ y2)) (hts _ (hbig _ hln)) y3 ⟨Nat.le_trans hR.1 hr1, Nat.le_trans hR.2 hr2⟩, hy, hts _ (hbig _ y6)⟩ ⟨nPc_blind g h H.size ci fs0, fun U hU hW => ⟨rfl, by rw [hU], by rw [hU]; exact hPc, hDc.weaken (fun _ _ _ _ => trivial), nE_call hE hW⟩⟩ rfl rfl hl.1 rfl (lv_room hst) d ⟨Nat.le_trans hC hr3, Nat.le_trans hS' hr4⟩) hS (fun q _ h => hFc q h) hFc (fun q t H1 locs1 ht hvm hw hB hz1 hk1 hS1 => ?_)
  obtain ⟨hP1, hD1⟩ := hB
  rw [ht] at hP1
  obtain ⟨hP2, hD2⟩ := n_join hP hD hk1 hFc hP1 hD1
  exact K q H1 locs1 ls hP2 hD2 hS1 hl
theorem n_astore (N : nC X nL cc own Ts f C S nw) {k : Fin 4} {a : Nat} (d : decode cc pc = .ok (.astore_n k, 1)) (hn : (k : Nat) < nL) (hL : ((k : Nat), Value.ref a) :: L.filter (fun q => !(q.1 == (k : Nat)) && !(q.1 + 1 == (k : Nat) && q.2.category == 2)) = L') (K : nJ X nL ws cl sl (pc + 1) L' st) : nJ X nL ws cl sl pc L (.ref a :: st) := by
  obtain ⟨p, l, e, R, s, m, args, below, meth, c, Q, A, g⟩ := X
  obtain ⟨hx, hb, -⟩ := N
  intro H locs ls hP hD hS hl
  subst hL
  exact lv_astore_n hx hb d rfl hl hn rfl (fun ls' hl' => K H locs ls' hP hD hS hl')
theorem n_istore (N : nC X nL cc own Ts f C S nw) {k : Fin 4} {a : Int32} (d : decode cc pc = .ok (.istore_n k, 1)) (hn : (k : Nat) < nL) (hL : ((k : Nat), Value.int a) :: L.filter (fun q => !(q.1 == (k : Nat)) && !(q.1 + 1 == (k : Nat) && q.2.category == 2)) = L') (K : nJ X nL ws cl sl (pc + 1) L' st) : nJ X nL ws cl sl pc L (.int a :: st) := by
  obtain ⟨p, l, e, R, s, m, args, below, meth, c, Q, A, g⟩ := X
  obtain ⟨hx, hb, -⟩ := N
  intro H locs ls hP hD hS hl
  subst hL
  exact lv_istore_n hx hb d rfl hl hn rfl (fun ls' hl' => K H locs ls' hP hD hS hl')
end NR2
