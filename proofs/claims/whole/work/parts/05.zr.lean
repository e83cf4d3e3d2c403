/-! rows of zJ: branches, fields, rows of ints -/
section ZR2
variable {X : zX} {nL : Nat} {cc : ByteArray} {own : String} {Ts : List Cond} {f nw : Nat} {μ : zM} {pc : Nat} {L L' : List (Nat × zV)} {st : List zV}
theorem z_icmp_eq (C : zC X nL cc own Ts f nw) {a b : Int} {off : Int} {tgt : Nat} (d : decode cc pc = .ok (.if_icmp .eq off, 3)) (ht : (pc : Int) + off = (tgt : Int)) (hA : zR a) (hB : zR b) (kt : a = b → zJ X nL μ tgt L st) (kf : ¬ a = b → zJ X nL μ (pc + 3) L st) : zJ X nL μ pc L (.inl b :: .inl a :: st) := by
  obtain ⟨p, l, e, R, s, m, args, below, meth, c, Q, A, G, cells, slots⟩ := X
  obtain ⟨hx, hb, -⟩ := C
  intro hr H locs ls hP hS hl
  exact lv_icmp_eq (x := iI a) (y := iI b) hx hb d ht (fun h => kt (by first | exact (iI_eq hA hB).mp h | (have := (iI_eq hA hB).mp h; omega)) hr H locs ls hP hS hl) (fun h => kf (by have := mt (iI_eq hA hB).mpr h; first | exact this | omega) hr H locs ls hP hS hl)
theorem z_if_eq (C : zC X nL cc own Ts f nw) {a : Int} {off : Int} {tgt : Nat} (d : decode cc pc = .ok (.ifCond .eq off, 3)) (ht : (pc : Int) + off = (tgt : Int)) (hA : zR a) (kt : a = 0 → zJ X nL μ tgt L st) (kf : ¬ a = 0 → zJ X nL μ (pc + 3) L st) : zJ X nL μ pc L (.inl a :: st) := by
  obtain ⟨p, l, e, R, s, m, args, below, meth, c, Q, A, G, cells, slots⟩ := X
  obtain ⟨hx, hb, -⟩ := C
  intro hr H locs ls hP hS hl
  have hB : zR 0 := ⟨by omega, by omega⟩
  refine lv_if_eq (x := iI a) hx hb d ht ?_ ?_ <;> rw [← iI_0]
  · exact (fun h => kt (by first | exact (iI_eq hA hB).mp h | (have := (iI_eq hA hB).mp h; omega)) hr H locs ls hP hS hl)
  · exact (fun h => kf (by have := mt (iI_eq hA hB).mpr h; first | exact this | omega) hr H locs ls hP hS hl)
theorem z_icmp_ne (C : zC X nL cc own Ts f nw) {a b : Int} {off : Int} {tgt : Nat} (d : decode cc pc = .ok (.if_icmp .ne off, 3)) (ht : (pc : Int) + off = (tgt : Int)) (hA : zR a) (hB : zR b) (kt : ¬ a = b → zJ X nL μ tgt L st) (kf : a = b → zJ X nL μ (pc + 3) L st) : zJ X nL μ pc L (.inl b :: .inl a :: st) := by
  obtain ⟨p, l, e, R, s, m, args, below, meth, c, Q, A, G, cells, slots⟩ := X
  obtain ⟨hx, hb, -⟩ := C
  intro hr H locs ls hP hS hl
  exact lv_icmp_ne (x := iI a) (y := iI b) hx hb d ht (fun h => kt (by first | exact ((not_congr (iI_eq hA hB))).mp h | (have := ((not_congr (iI_eq hA hB))).mp h; omega)) hr H locs ls hP hS hl) (fun h => kf ((iI_eq hA hB).mp h) hr H locs ls hP hS hl)
theorem z_if_ne (C : zC X nL cc own Ts f nw) {a : Int} {off : Int} {tgt : Nat} (d : decode cc pc = .ok (.ifCond .ne off, 3)) (ht : (pc : Int) + off = (tgt : Int)) (hA : zR a) (kt : ¬ a = 0 → zJ X nL μ tgt L st) (kf : a = 0 → zJ X nL μ (pc + 3) L st) : zJ X nL μ pc L (.inl a :: st) := by
  obtain ⟨p, l, e, R, s, m, args, below, meth, c, Q, A, G, cells, slots⟩ := X
  obtain ⟨hx, hb, -⟩ := C
  intro hr H locs ls hP hS hl
  have hB : zR 0 := ⟨by omega, by omega⟩
  refine lv_if_ne (x := iI a) hx hb d ht ?_ ?_ <;> rw [← iI_0]
  · exact (fun h => kt (by first | exact ((not_congr (iI_eq hA hB))).mp h | (have := ((not_congr (iI_eq hA hB))).mp h; omega)) hr H locs ls hP hS hl)
  · exact (fun h => kf ((iI_eq hA hB).mp h) hr H locs ls hP hS hl)
theorem z_icmp_lt (C : zC X nL cc own Ts f nw) {a b : Int} {off : Int} {tgt : Nat} (d : decode cc pc = .ok (.if_icmp .lt off, 3)) (ht : (pc : Int) + off = (tgt : Int)) (hA : zR a) (hB : zR b) (kt : a < b → zJ X nL μ tgt L st) (kf : b ≤ a → zJ X nL μ (pc + 3) L st) : zJ X nL μ pc L (.inl b :: .inl a :: st) := by
  obtain ⟨p, l, e, R, s, m, args, below, meth, c, Q, A, G, cells, slots⟩ := X
  obtain ⟨hx, hb, -⟩ := C
  intro hr H locs ls hP hS hl
  exact lv_icmp_lt (x := iI a) (y := iI b) hx hb d ht (fun h => kt (by first | exact (iI_lt hA hB).mp h | (have := (iI_lt hA hB).mp h; omega)) hr H locs ls hP hS hl) (fun h => kf (by have := mt (iI_lt hA hB).mpr h; first | exact this | omega) hr H locs ls hP hS hl)
theorem z_if_lt (C : zC X nL cc own Ts f nw) {a : Int} {off : Int} {tgt : Nat} (d : decode cc pc = .ok (.ifCond .lt off, 3)) (ht : (pc : Int) + off = (tgt : Int)) (hA : zR a) (kt : a < 0 → zJ X nL μ tgt L st) (kf : 0 ≤ a → zJ X nL μ (pc + 3) L st) : zJ X nL μ pc L (.inl a :: st) := by
  obtain ⟨p, l, e, R, s, m, args, below, meth, c, Q, A, G, cells, slots⟩ := X
  obtain ⟨hx, hb, -⟩ := C
  intro hr H locs ls hP hS hl
  have hB : zR 0 := ⟨by omega, by omega⟩
  refine lv_if_lt (x := iI a) hx hb d ht ?_ ?_ <;> rw [← iI_0]
  · exact (fun h => kt (by first | exact (iI_lt hA hB).mp h | (have := (iI_lt hA hB).mp h; omega)) hr H locs ls hP hS hl)
  · exact (fun h => kf (by have := mt (iI_lt hA hB).mpr h; first | exact this | omega) hr H locs ls hP hS hl)
theorem z_icmp_ge (C : zC X nL cc own Ts f nw) {a b : Int} {off : Int} {tgt : Nat} (d : decode cc pc = .ok (.if_icmp .ge off, 3)) (ht : (pc : Int) + off = (tgt : Int)) (hA : zR a) (hB : zR b) (kt : b ≤ a → zJ X nL μ tgt L st) (kf : a < b → zJ X nL μ (pc + 3) L st) : zJ X nL μ pc L (.inl b :: .inl a :: st) := by
  obtain ⟨p, l, e, R, s, m, args, below, meth, c, Q, A, G, cells, slots⟩ := X
  obtain ⟨hx, hb, -⟩ := C
  intro hr H locs ls hP hS hl
  exact lv_icmp_ge (x := iI a) (y := iI b) hx hb d ht (fun h => kt (by first | exact (iI_le hB hA).mp h | (have := (iI_le hB hA).mp h; omega)) hr H locs ls hP hS hl) (fun h => kf (by have := mt (iI_le hB hA).mpr h; first | exact this | omega) hr H locs ls hP hS hl)
theorem z_if_ge (C : zC X nL cc own Ts f nw) {a : Int} {off : Int} {tgt : Nat} (d : decode cc pc = .ok (.ifCond .ge off, 3)) (ht : (pc : Int) + off = (tgt : Int)) (hA : zR a) (kt : 0 ≤ a → zJ X nL μ tgt L st) (kf : a < 0 → zJ X nL μ (pc + 3) L st) : zJ X nL μ pc L (.inl a :: st) := by
  obtain ⟨p, l, e, R, s, m, args, below, meth, c, Q, A, G, cells, slots⟩ := X
  obtain ⟨hx, hb, -⟩ := C
  intro hr H locs ls hP hS hl
  have hB : zR 0 := ⟨by omega, by omega⟩
  refine lv_if_ge (x := iI a) hx hb d ht ?_ ?_ <;> rw [← iI_0]
  · exact (fun h => kt (by first | exact (iI_le hB hA).mp h | (have := (iI_le hB hA).mp h; omega)) hr H locs ls hP hS hl)
  · exact (fun h => kf (by have := mt (iI_le hB hA).mpr h; first | exact this | omega) hr H locs ls hP hS hl)
theorem z_icmp_gt (C : zC X nL cc own Ts f nw) {a b : Int} {off : Int} {tgt : Nat} (d : decode cc pc = .ok (.if_icmp .gt off, 3)) (ht : (pc : Int) + off = (tgt : Int)) (hA : zR a) (hB : zR b) (kt : b < a → zJ X nL μ tgt L st) (kf : a ≤ b → zJ X nL μ (pc + 3) L st) : zJ X nL μ pc L (.inl b :: .inl a :: st) := by
  obtain ⟨p, l, e, R, s, m, args, below, meth, c, Q, A, G, cells, slots⟩ := X
  obtain ⟨hx, hb, -⟩ := C
  intro hr H locs ls hP hS hl
  exact lv_icmp_gt (x := iI a) (y := iI b) hx hb d ht (fun h => kt (by first | exact (iI_lt hB hA).mp h | (have := (iI_lt hB hA).mp h; omega)) hr H locs ls hP hS hl) (fun h => kf (by have := mt (iI_lt hB hA).mpr h; first | exact this | omega) hr H locs ls hP hS hl)
theorem z_if_gt (C : zC X nL cc own Ts f nw) {a : Int} {off : Int} {tgt : Nat} (d : decode cc pc = .ok (.ifCond .gt off, 3)) (ht : (pc : Int) + off = (tgt : Int)) (hA : zR a) (kt : 0 < a → zJ X nL μ tgt L st) (kf : a ≤ 0 → zJ X nL μ (pc + 3) L st) : zJ X nL μ pc L (.inl a :: st) := by
  obtain ⟨p, l, e, R, s, m, args, below, meth, c, Q, A, G, cells, slots⟩ := X
  obtain ⟨hx, hb, -⟩ := C
  intro hr H locs ls hP hS hl
  have hB : zR 0 := ⟨by omega, by omega⟩
  refine lv_if_gt (x := iI a) hx hb d ht ?_ ?_ <;> rw [← iI_0]
  · exact (fun h => kt (by first | exact (iI_lt hB hA).mp h | (have := (iI_lt hB hA).mp h; omega)) hr H locs ls hP hS hl)
  · exact (fun h => kf (by have := mt (iI_lt hB hA).mpr h; first | exact this | omega) hr H locs ls hP hS hl)
theorem z_icmp_le (C : zC X nL cc own Ts f nw) {a b : Int} {off : Int} {tgt : Nat} (d : decode cc pc = .ok (.if_icmp .le off, 3)) (ht : (pc : Int) + off = (tgt : Int)) (hA : zR a) (hB : zR b) (kt : a ≤ b → zJ X nL μ tgt L st) (kf : b < a → zJ X nL μ (pc + 3) L st) : zJ X nL μ pc L (.inl b :: .inl a :: st) := by
  obtain ⟨p, l, e, R, s, m, args, below, meth, c, Q, A, G, cells, slots⟩ := X
  obtain ⟨hx, hb, -⟩ := C
  intro hr H locs ls hP hS hl
  exact lv_icmp_le (x := iI a) (y := iI b) hx hb d ht (fun h => kt (by first | exact (iI_le hA hB).mp h | (have := (iI_le hA hB).mp h; omega)) hr H locs ls hP hS hl) (fun h => kf (by have := mt (iI_le hA hB).mpr h; first | exact this | omega) hr H locs ls hP hS hl)
theorem z_if_le (C : zC X nL cc own Ts f nw) {a : Int} {off : Int} {tgt : Nat} (d : decode cc pc = .ok (.ifCond .le off, 3)) (ht : (pc : Int) + off = (tgt : Int)) (hA : zR a) (kt : a ≤ 0 → zJ X nL μ tgt L st) (kf : 0 < a → zJ X nL μ (pc + 3) L st) : zJ X nL μ pc L (.inl a :: st) := by
  obtain ⟨p, l, e, R, s, m, args, below, meth, c, Q, A, G, cells, slots⟩ := X
  obtain ⟨hx, hb, -⟩ := C
  intro hr H locs ls hP hS hl
  have hB : zR 0 := ⟨by omega, by omega⟩
  refine lv_if_le (x := iI a) hx hb d ht ?_ ?_ <;> rw [← iI_0]
  · exact (fun h => kt (by first | exact (iI_le hA hB).mp h | (have := (iI_le hA hB).mp h; omega)) hr H locs ls hP hS hl)
  · exact (fun h => kf (by have := mt (iI_le hA hB).mpr h; first | exact this | omega) hr H locs ls hP hS hl)
theorem z_tabIn (C : zC X nL cc own Ts f nw) {x dflt lo hi : Int} {offs : Array Int} {len : Nat} {off : Int} {tgt : Nat} (d : decode cc pc = .ok (.tableswitch dflt lo hi offs, len)) (hx : zR x) (k : Nat) (h : x = lo + (k : Int)) (h2 : x ≤ hi) (ho : offs[k]? = some off) (ht : (pc : Int) + off = (tgt : Int)) (K : zJ X nL μ tgt L st) : zJ X nL μ pc L (.inl x :: st) := by
  have hA := hx
  obtain ⟨p, l, e, R, s, m, args, below, meth, c, Q, A, G, cells, slots⟩ := X
  obtain ⟨hx, hb, -⟩ := C
  intro hr H locs ls hP hS hl
  have e1 : (iI x).toInt = x := iI_toInt hA
  exact lv_tableIn (x := iI x) hx hb d (by rw [e1]; omega) (by rw [e1]; omega) (by rw [e1, show (x - lo).toNat = k by omega]; exact ho) ht (K hr H locs ls hP hS hl)
theorem z_tabOut (C : zC X nL cc own Ts f nw) {x dflt lo hi : Int} {offs : Array Int} {len : Nat} {tgt : Nat} (d : decode cc pc = .ok (.tableswitch dflt lo hi offs, len)) (hx : zR x) (h : x < lo ∨ hi < x) (ht : (pc : Int) + dflt = (tgt : Int)) (K : zJ X nL μ tgt L st) : zJ X nL μ pc L (.inl x :: st) := by
  have hA := hx
  obtain ⟨p, l, e, R, s, m, args, below, meth, c, Q, A, G, cells, slots⟩ := X
  obtain ⟨hx, hb, -⟩ := C
  intro hr H locs ls hP hS hl
  have e1 : (iI x).toInt = x := iI_toInt hA
  exact lv_tableOut (x := iI x) hx hb d (by rw [e1]; exact h) ht (K hr H locs ls hP hS hl)
theorem z_look (C : zC X nL cc own Ts f nw) {x dflt : Int} {ps : Array (Int × Int)} {len : Nat} {off : Int} {tgt : Nat} (d : decode cc pc = .ok (.lookupswitch dflt ps, len)) (hx : zR x) (hp : (ps.toList.zip (ps.toList.drop 1)).all (fun (a, next) => a.1 < next.1) = true) (ho : Op.lookupswitch.offset ps.toList dflt x = off) (ht : (pc : Int) + off = (tgt : Int)) (K : zJ X nL μ tgt L st) : zJ X nL μ pc L (.inl x :: st) := by
  have hA := hx
  obtain ⟨p, l, e, R, s, m, args, below, meth, c, Q, A, G, cells, slots⟩ := X
  obtain ⟨hx, hb, -⟩ := C
  intro hr H locs ls hP hS hl
  exact lv_lookup (x := iI x) hx hb d hp (by rw [iI_toInt hA]; exact ho) ht (K hr H locs ls hP hS hl)
/-- a field as an instruction names it: the class's number, the field's place -/
def zF (own : String) (idx ci k : Nat) : Prop := ∃ (q : vw_C), vwCl[ci]? = some q ∧ k < q.2.2 ∧ (∀ w ∈ u_ws q.1 q.2.1 q.2.2, w ∈ zBIG) ∧ Cond.fieldLink own idx (q.2.1 k).1 (q.2.1 k).2.1 (q.2.1 k).2.2.1 ∈ zBIG
/-- a field of ints that may be written -/
def zFp (ci k : Nat) (ty : FieldType) : Prop := ∃ (q : vw_C) (ty0 : Nat → FieldType), vwCl[ci]? = some q ∧ (∀ k, k < q.2.2 → parseFieldDescriptor (q.2.1 k).2.2.1 = some (ty0 k)) ∧ (∀ a, a < q.2.2 → ∀ b, b < q.2.2 → a ≠ b → (q.2.1 a).2.1 ≠ (q.2.1 b).2.1) ∧ (q.2.1 k).2.2.2 = false ∧ ty0 k = ty
theorem z_getI (C : zC X nL cc own Ts f nw) {idx ci k i : Nat} {ks : List (Option Nat)} (F : zF own idx ci k) (d : decode cc pc = .ok (.getfield idx, 3)) (hi : i < 68) (hd : zd i = .inl (ci, ks)) (hk : ks[k]? = some none) (kz : Int) (hkz : kz = (k : Int)) (K : zR (μ i kz) → zJ X nL μ (pc + 3) L (.inl (μ i kz) :: st)) : zJ X nL μ pc L (.inr i :: st) := by
  obtain ⟨p, l, e, R, s, m, args, below, meth, c, Q, A, G, cells, slots⟩ := X
  obtain ⟨hx, hb, -, hown, hts, hbig, -, -, hE, -⟩ := C
  obtain ⟨⟨Cn, T, N⟩, h1, h2, h3, h4⟩ := F
  intro hr H locs ls hP hS hl
  have hg := zW_get G μ hi
  rw [hd] at hg
  refine va_get (C := Cn) (T := T) (N := N) hx hb hts (fun w hw => hbig w (h3 w hw)) hown hE.1 hP i hg h1 k h2 (hts _ (hbig _ h4)) (fun _ h => h) (v := .int (iI (μ i kz))) ?_ d (K (hr i kz) hr H locs ls hP hS hl)
  rw [zfs_int G _ ks 0 k hk, hkz, Nat.zero_add]
theorem z_getR (C : zC X nL cc own Ts f nw) {idx ci k i t : Nat} {ks : List (Option Nat)} (F : zF own idx ci k) (d : decode cc pc = .ok (.getfield idx, 3)) (hi : i < 68) (hd : zd i = .inl (ci, ks)) (hk : ks[k]? = some (some t)) (K : zJ X nL μ (pc + 3) L (.inr t :: st)) : zJ X nL μ pc L (.inr i :: st) := by
  obtain ⟨p, l, e, R, s, m, args, below, meth, c, Q, A, G, cells, slots⟩ := X
  obtain ⟨hx, hb, -, hown, hts, hbig, -, -, hE, -⟩ := C
  obtain ⟨⟨Cn, T, N⟩, h1, h2, h3, h4⟩ := F
  intro hr H locs ls hP hS hl
  have hg := zW_get G μ hi
  rw [hd] at hg
  exact va_get (C := Cn) (T := T) (N := N) hx hb hts (fun w hw => hbig w (h3 w hw)) hown hE.1 hP i hg h1 k h2 (hts _ (hbig _ h4)) (fun _ h => h) (v := .ref (G.2.2.2 t)) (zfs_ref G _ ks 0 k hk) d (K hr H locs ls hP hS hl)
theorem z_putW (C : zC X nL cc own Ts f nw) {idx ci k i : Nat} {v v' : Int} {ty : FieldType} {ks : List (Option Nat)} (F : zF own idx ci k) (Fp : zFp ci k ty) (d : decode cc pc = .ok (.putfield idx, 3)) (hi : i < 68) (hd : zd i = .inl (ci, ks)) (hk : ks[k]? = some none) (kz : Int) (hkz : kz = (k : Int)) (hn : narrow ty (.int (iI v)) = .int (iI v)) (hfit : fits ty (.int (iI v)) = true) (hv : zR v') (hvv : iI v = iI v') (K : zJ X nL (zs μ i kz v') (pc + 3) L st) : zJ X nL μ pc L (.inl v :: .inr i :: st) := by
  obtain ⟨p, l, e, R, s, m, args, below, meth, c, Q, A, G, cells, slots⟩ := X
  obtain ⟨hx, hb, -, hown, hts, hbig, -, hD, hE, -⟩ := C
  obtain ⟨⟨Cn, T, N⟩, h1, h2, h3, h4⟩ := F
  obtain ⟨q, ty0, g1, g2, g3, g4, g5⟩ := Fp
  have hq : q = (Cn, T, N) := Option.some.inj (g1.symm.trans h1)
  subst hq
  intro hr H locs ls hP hS hl
  have hg := zW_get G μ hi
  rw [hd] at hg
  refine va_put (C := Cn) (T := T) (N := N) (A := A) hx hb hts (fun w hw => hbig w (h3 w hw)) ty0 g2 g3 hown hE.1 hP (zD_any μ hD) hS i hg h1 k h2 (hts _ (hbig _ h4)) (fun _ h => h) g4 (v := .int (iI v)) (ty := ty) (by rw [g2 k h2, g5]) hn hfit (by rw [zfs_len]; exact (List.getElem?_eq_some_iff.mp hk).1) d (fun H1 locs1 hP1 hD1 hS1 => ?_)
  refine K (zs_R hr i kz hv) H1 locs1 ls ?_ hS1 hl
  have e1 : (zW G μ).set i (G.2.2.2 i, .inr (ci, (zfs G (μ i) ks 0).set k (.int (iI v)))) = zW G (zs μ i kz v') := by
    rw [← zW_set G μ hi kz v', hd, hvv, zfs_set G (μ i) v' ks 0 k hk, hkz]
    simp only [Nat.zero_add]
    rfl
  rw [← e1]
  exact hP1
theorem z_putI (C : zC X nL cc own Ts f nw) {idx ci k i : Nat} {v : Int} {ks : List (Option Nat)} (F : zF own idx ci k) (Fp : zFp ci k .int) (d : decode cc pc = .ok (.putfield idx, 3)) (hi : i < 68) (hd : zd i = .inl (ci, ks)) (hk : ks[k]? = some none) (kz : Int) (hkz : kz = (k : Int)) (hv : zR v) (K : zJ X nL (zs μ i kz v) (pc + 3) L st) : zJ X nL μ pc L (.inl v :: .inr i :: st) :=
  z_putW C F Fp d hi hd hk kz hkz rfl (by rfl) hv rfl K
theorem z_putIw (C : zC X nL cc own Ts f nw) {idx ci k i : Nat} {v : Int} {ks : List (Option Nat)} (F : zF own idx ci k) (Fp : zFp ci k .int) (d : decode cc pc = .ok (.putfield idx, 3)) (hi : i < 68) (hd : zd i = .inl (ci, ks)) (hk : ks[k]? = some none) (kz : Int) (hkz : kz = (k : Int)) (K : zJ X nL (zs μ i kz (zw v)) (pc + 3) L st) : zJ X nL μ pc L (.inl v :: .inr i :: st) :=
  z_putW C F Fp d hi hd hk kz hkz rfl (by rfl) (zw_R v) (zw_iI v).symm K
theorem z_iald (C : zC X nL cc own Ts f nw) {i n : Nat} {x : Int} (d : decode cc pc = .ok (.iaload, 1)) (hi : i < 68) (hd : zd i = .inr (.inl n)) (h : 0 ≤ x ∧ x < (n : Int)) (hn : n ≤ 100) (K : zR (μ i x) → zJ X nL μ (pc + 1) L (.inl (μ i x) :: st)) : zJ X nL μ pc L (.inl x :: .inr i :: st) := by
  obtain ⟨p, l, e, R, s, m, args, below, meth, c, Q, A, G, cells, slots⟩ := X
  obtain ⟨hx, hb, -, hown, hts, hbig, -, -, hE, -⟩ := C
  intro hr H locs ls hP hS hl
  have hg := zW_get G μ hi
  rw [hd] at hg
  refine va_iald (n := n) (f := fun j => iI (μ i (j : Int))) (i := iI x) hx hb hE.1 hP i 0 hg rfl (iI_in h.1 h.2 (by omega)) d ?_
  rw [iI_clamp h.1 h.2 (by omega), show ((x.toNat : Nat) : Int) = x by omega]
  exact K (hr i x) hr H locs ls hP hS hl
theorem z_iastW (C : zC X nL cc own Ts f nw) {i n : Nat} {x v v' : Int} (d : decode cc pc = .ok (.iastore, 1)) (hi : i < 68) (hd : zd i = .inr (.inl n)) (h : 0 ≤ x ∧ x < (n : Int)) (hn : n ≤ 100) (hv : zR v') (hvv : iI v = iI v') (K : zJ X nL (zs μ i x v') (pc + 1) L st) : zJ X nL μ pc L (.inl v :: .inl x :: .inr i :: st) := by
  obtain ⟨p, l, e, R, s, m, args, below, meth, c, Q, A, G, cells, slots⟩ := X
  obtain ⟨hx, hb, -, hown, hts, hbig, -, hD, hE, -⟩ := C
  intro hr H locs ls hP hS hl
  have hg := zW_get G μ hi
  rw [hd] at hg
  refine va_iast (n := n) (f := fun j => iI (μ i (j : Int))) (i := iI x) (x := iI v) hx hb hE.1 hP (zD_any μ hD) hS i 0 hg rfl (iI_in h.1 h.2 (by omega)) d (fun H1 locs1 hP1 hD1 hS1 => ?_)
  refine K (zs_R hr i x hv) H1 locs1 ls ?_ hS1 hl
  have e1 : (zW G μ).set i (G.2.2.2 i, .inl (G.2.1, n, .inl (upd (fun j => iI (μ i (j : Int))) (iI x).toNatClampNeg (iI v)))) = zW G (zs μ i x v') := by
    rw [← zW_set G μ hi x v', hd, hvv, iI_clamp h.1 h.2 (by omega)]
    have e2 : upd (fun j : Nat => iI (μ i (j : Int))) x.toNat (iI v') = fun j : Nat => iI (if (j : Int) = x then v' else μ i (j : Int)) := by
      funext j
      by_cases hj : j = x.toNat
      · subst hj
        rw [pk_us, if_pos (by omega)]
      · rw [pk_un hj, if_neg (by omega)]
    rw [e2]
    rfl
  rw [← e1]
  exact hP1
theorem z_iast (C : zC X nL cc own Ts f nw) {i n : Nat} {x v : Int} (d : decode cc pc = .ok (.iastore, 1)) (hi : i < 68) (hd : zd i = .inr (.inl n)) (h : 0 ≤ x ∧ x < (n : Int)) (hn : n ≤ 100) (hv : zR v) (K : zJ X nL (zs μ i x v) (pc + 1) L st) : zJ X nL μ pc L (.inl v :: .inl x :: .inr i :: st) :=
  z_iastW C d hi hd h hn hv rfl K
theorem z_iastw (C : zC X nL cc own Ts f nw) {i n : Nat} {x v : Int} (d : decode cc pc = .ok (.iastore, 1)) (hi : i < 68) (hd : zd i = .inr (.inl n)) (h : 0 ≤ x ∧ x < (n : Int)) (hn : n ≤ 100) (K : zJ X nL (zs μ i x (zw v)) (pc + 1) L st) : zJ X nL μ pc L (.inl v :: .inl x :: .inr i :: st) :=
  z_iastW C d hi hd h hn (zw_R v) (zw_iI v).symm K
theorem z_aald (C : zC X nL cc own Ts f nw) {i n b : Nat} {x : Int} (d : decode cc pc = .ok (.aaload, 1)) (hi : i < 68) (hd : zd i = .inr (.inr (n, b))) (h : 0 ≤ x ∧ x < (n : Int)) (hn : n ≤ 100) (K : zJ X nL μ (pc + 1) L (.inr (b + x.toNat) :: st)) : zJ X nL μ pc L (.inl x :: .inr i :: st) := by
  obtain ⟨p, l, e, R, s, m, args, below, meth, c, Q, A, G, cells, slots⟩ := X
  obtain ⟨hx, hb, -, hown, hts, hbig, -, -, hE, -⟩ := C
  intro hr H locs ls hP hS hl
  have hg := zW_get G μ hi
  rw [hd] at hg
  have hcl : (iI x).toNatClampNeg = x.toNat := iI_clamp h.1 h.2 (by omega)
  refine W.aald (v := .ref (G.2.2.2 (b + x.toNat))) (ty := .array .int) (j := iI x) hx hb (hP i _ hg) ((hE.1.2 1 _ rfl).1 n (fun j => va_rf (some (G.2.2.2 (b + j))))) rfl (fun q => by cases q) ?_ ?_ rfl rfl d (K hr H locs ls hP hS hl)
  · show ¬ (iI x < 0 ∨ (arrV _ _ _).slots.size ≤ _)
    rw [arrV_size]
    exact iI_in (n := n) h.1 h.2 (by omega)
  · show (arrV _ n _).slots[_]? = _
    have hlt : (iI x).toNatClampNeg < n := by rw [hcl]; omega
    rw [arrV_read _ _ hlt, hcl]
    rfl
theorem z_alen (C : zC X nL cc own Ts f nw) {i n : Nat} (d : decode cc pc = .ok (.arraylength, 1)) (hi : i < 68) (hd : zd i = .inr (.inl n)) (nz : Int) (hn : nz = (n : Int)) (K : zJ X nL μ (pc + 1) L (.inl nz :: st)) : zJ X nL μ pc L (.inr i :: st) := by
  obtain ⟨p, l, e, R, s, m, args, below, meth, c, Q, A, G, cells, slots⟩ := X
  obtain ⟨hx, hb, -, hown, hts, hbig, -, -, hE, -⟩ := C
  intro hr H locs ls hP hS hl
  have hg := zW_get G μ hi
  rw [hd] at hg
  exact va_alen hx hb hE.1 hP i 0 hg rfl (v := iI nz) (by rw [hn]; exact Int32.ofInt_eq_ofNat.symm) d (K hr H locs ls hP hS hl)
end ZR2
