/-! Z: ONE memory of whole numbers over fixed cells. Every cell of the class and of the reference has a number i < 68; what it holds of ints is 'μ i' (place to Int); its references never change. -/
abbrev zM : Type := Nat → Int → Int
abbrev zV : Type := Int ⊕ Nat
abbrev zD : Type := (Nat × List (Option Nat)) ⊕ (Nat ⊕ (Nat × Nat))
def iI (z : Int) : Int32 := Int32.ofInt z
abbrev zR (z : Int) : Prop := -2147483648 ≤ z ∧ z < 2147483648
/-- the int that the machine holds for z -/
def zw (z : Int) : Int := (iI z).toInt
theorem iI_toInt {z : Int} (h : zR z) : (iI z).toInt = z := by
  have h1 : z.bmod (2 ^ 32) = z := Int.bmod_eq_of_le (by have := h.1; omega) (by have := h.2; omega)
  have h2 := (Int32.ofInt_eq_iff_bmod_eq_toInt z (iI z)).mp rfl
  omega
theorem iI_of (x : Int32) : iI x.toInt = x := Int32.ofInt_toInt x
theorem zw_iI (z : Int) : iI (zw z) = iI z := iI_of _
theorem zw_eq {z : Int} (h : zR z) : zw z = z := iI_toInt h
theorem zR_toInt (x : Int32) : zR x.toInt := ⟨by have := Int32.le_toInt x; omega, by have := Int32.toInt_lt x; omega⟩
theorem zw_R (z : Int) : zR (zw z) := zR_toInt _
theorem iI_inj {a b : Int} (ha : zR a) (hb : zR b) (h : iI a = iI b) : a = b := by
  have := congrArg Int32.toInt h
  rwa [iI_toInt ha, iI_toInt hb] at this
theorem iI_eq {a b : Int} (ha : zR a) (hb : zR b) : iI a = iI b ↔ a = b := ⟨iI_inj ha hb, fun h => by rw [h]⟩
theorem iI_lt {a b : Int} (ha : zR a) (hb : zR b) : iI a < iI b ↔ a < b := by
  rw [Int32.lt_iff_toInt_lt, iI_toInt ha, iI_toInt hb]
theorem iI_le {a b : Int} (ha : zR a) (hb : zR b) : iI a ≤ iI b ↔ a ≤ b := by
  rw [Int32.le_iff_toInt_le, iI_toInt ha, iI_toInt hb]
theorem iI_add (a b : Int) : iI a + iI b = iI (a + b) := (Int32.ofInt_add a b).symm
theorem iI_sub (a b : Int) : iI a - iI b = iI (a - b) := (Int32.ofInt_sub a b).symm
theorem iI_mul (a b : Int) : iI a * iI b = iI (a * b) := (Int32.ofInt_mul a b).symm
theorem iI_neg (a : Int) : -iI a = iI (-a) := (Int32.ofInt_neg a).symm
theorem iI_0 : iI 0 = 0 := by decide
theorem iI_div {a b : Int} (ha : zR a) (hb : zR b) (h0 : 0 ≤ a) (h1 : 0 < b) : iI a / iI b = iI (a / b) := by
  have h := Int32.ofInt_tdiv (a := a) (b := b) (by have := ha.1; have : Int32.minValue.toInt = -2147483648 := by decide
                                                   omega) (by have := ha.2; have : Int32.maxValue.toInt = 2147483647 := by decide
                                                              omega) (by have := hb.1; have : Int32.minValue.toInt = -2147483648 := by decide
                                                                         omega) (by have := hb.2; have : Int32.maxValue.toInt = 2147483647 := by decide
                                                                                    omega)
  unfold iI
  rw [← h, Int.tdiv_eq_ediv_of_nonneg h0]
theorem iI_rem {a b : Int} (ha : zR a) (hb : zR b) (h0 : 0 ≤ a) (h1 : 0 < b) : iI a - iI a / iI b * iI b = iI (a % b) := by
  rw [iI_div ha hb h0 h1, iI_mul, iI_sub, Int.emod_def, Int.mul_comm (a / b) b]
theorem iI_clamp {x : Int} {n : Nat} (h0 : 0 ≤ x) (h1 : x < n) (hn : n < 2147483648) : (iI x).toNatClampNeg = x.toNat := by
  show (iI x).toInt.toNat = x.toNat
  rw [iI_toInt ⟨by omega, by omega⟩]
theorem iI_in {x : Int} {n : Nat} (h0 : 0 ≤ x) (h1 : x < n) (hn : n < 2147483648) : vp_in (iI x) n := by
  rw [vp_in_iff, iI_toInt ⟨by omega, by omega⟩]
  exact ⟨h0, h1⟩
/-- bits -/
def zand (a b : Int) : Int := (iI a &&& iI b).toInt
def zor (a b : Int) : Int := (iI a ||| iI b).toInt
def zxor (a b : Int) : Int := (iI a ^^^ iI b).toInt
def zshl (a b : Int) : Int := (iI a <<< (iI b &&& 31)).toInt
def zshr (a b : Int) : Int := (iI a >>> (iI b &&& 31)).toInt
def zushr (a b : Int) : Int := ((iI a).toUInt32 >>> ((iI b).toUInt32 &&& Int32.toUInt32 31)).toInt32.toInt
/-- the memory, a place written -/
def zs (μ : zM) (i : Nat) (j v : Int) : zM := fun a => if a = i then fun b => if b = j then v else μ i b else μ a
theorem zs_self (μ : zM) (i : Nat) (j v : Int) : zs μ i j v i j = v := by simp [zs]
theorem zs_ne (μ : zM) {i a : Nat} (j v : Int) (h : a ≠ i) : zs μ i j v a = μ a := by simp [zs, h]
theorem zs_at (μ : zM) (i : Nat) (j v b : Int) : zs μ i j v i b = if b = j then v else μ i b := by simp [zs]
theorem zs_ne2 (μ : zM) (i : Nat) {j b : Int} (v : Int) (h : b ≠ j) : zs μ i j v i b = μ i b := by simp [zs, h]
abbrev zRM (μ : zM) : Prop := ∀ i j, zR (μ i j)
theorem zs_R {μ : zM} (h : zRM μ) (i : Nat) (j : Int) {v : Int} (hv : zR v) : zRM (zs μ i j v) := by
  intro a b
  unfold zs
  by_cases e : a = i
  · rw [if_pos e]
    by_cases e2 : b = j
    · rw [if_pos e2]; exact hv
    · rw [if_neg e2]; exact h i b
  · rw [if_neg e]; exact h a b
/-- the cells: an object (its class in vwCl; of each field: a reference to that cell, or an int), a row of ints, a row of references to cells that lie one behind another -/
def zd : Nat → zD
  | 0 => .inl (5, [some 1, some 6, some 11, none, some 16, some 18, some 22, some 27, some 29, none, some 30])
  | 1 => .inl (4, [some 2, some 3, some 4, some 5, none, none, none])
  | 2 => .inr (.inl 2)
  | 3 => .inr (.inl 10)
  | 4 => .inr (.inl 10)
  | 5 => .inr (.inl 100)
  | 6 => .inl (4, [some 7, some 8, some 9, some 10, none, none, none])
  | 7 => .inr (.inl 2)
  | 8 => .inr (.inl 10)
  | 9 => .inr (.inl 10)
  | 10 => .inr (.inl 100)
  | 11 => .inl (4, [some 12, some 13, some 14, some 15, none, none, none])
  | 12 => .inr (.inl 2)
  | 13 => .inr (.inl 10)
  | 14 => .inr (.inl 10)
  | 15 => .inr (.inl 100)
  | 16 => .inl (3, [some 17, none])
  | 17 => .inr (.inl 96)
  | 18 => .inl (2, [some 19, some 20, some 21, none, none])
  | 19 => .inr (.inr (10, 48))
  | 20 => .inr (.inr (10, 58))
  | 21 => .inr (.inl 10)
  | 22 => .inl (1, [some 23, some 24, some 25, some 26])
  | 23 => .inr (.inl 10)
  | 24 => .inr (.inl 10)
  | 25 => .inr (.inl 10)
  | 26 => .inr (.inl 10)
  | 27 => .inl (0, [some 28])
  | 28 => .inr (.inl 10)
  | 29 => .inr (.inl 10)
  | 30 => .inr (.inl 7)
  | 31 => .inl (6, [none, none, none, none, none, none, none, some 32, some 33, some 34, some 35, some 36, some 37, none, none, none, none, none, some 38, some 39, some 40, some 41, some 42, some 43, none, some 44, none, none, none, none, none, none, some 45, some 46, some 47])
  | 32 => .inr (.inl 10)
  | 33 => .inr (.inl 10)
  | 34 => .inr (.inl 50)
  | 35 => .inr (.inl 96)
  | 36 => .inr (.inl 10)
  | 37 => .inr (.inl 7)
  | 38 => .inr (.inl 5)
  | 39 => .inr (.inl 5)
  | 40 => .inr (.inl 10)
  | 41 => .inr (.inl 10)
  | 42 => .inr (.inl 5)
  | 43 => .inr (.inl 5)
  | 44 => .inr (.inl 50)
  | 45 => .inr (.inl 10)
  | 46 => .inr (.inl 10)
  | 47 => .inr (.inl 50)
  | _ => .inr (.inl 5)
theorem zd_row {k : Nat} (h : 48 ≤ k) : zd k = .inr (.inl 5) := by
  obtain ⟨j, rfl⟩ : ∃ j, k = j + 48 := ⟨k - 48, by omega⟩
  rfl
/-- one of the three sets of what is told: its object's cell -/
abbrev zTo (t : Nat) : Prop := t = 1 ∨ t = 6 ∨ t = 11
theorem zd_to0 {t : Nat} (h : zTo t) : zd t = .inl (4, [some (t + 1), some (t + 2), some (t + 3), some (t + 4), none, none, none]) := by rcases h with rfl | rfl | rfl <;> rfl
theorem zd_to1 {t : Nat} (h : zTo t) : zd (t + 1) = .inr (.inl 2) := by rcases h with rfl | rfl | rfl <;> rfl
theorem zd_to2 {t : Nat} (h : zTo t) : zd (t + 2) = .inr (.inl 10) := by rcases h with rfl | rfl | rfl <;> rfl
theorem zd_to3 {t : Nat} (h : zTo t) : zd (t + 3) = .inr (.inl 10) := by rcases h with rfl | rfl | rfl <;> rfl
theorem zd_to4 {t : Nat} (h : zTo t) : zd (t + 4) = .inr (.inl 100) := by rcases h with rfl | rfl | rfl <;> rfl
/-- what is fixed of a run: where classes, cells and texts lie -/
abbrev zG : Type := va_G × ClassId × ClassId × (Nat → Nat)
def zv (G : zG) (v : zV) : Value := match v with
  | .inl z => .int (iI z)
  | .inr i => .ref (G.2.2.2 i)
theorem zv_cat (G : zG) (v : zV) : (zv G v).category = 1 := by cases v <;> rfl
def zf1 (G : zG) (r : Int → Int) (o : Option Nat) (i : Nat) : Value := match o with
  | some t => .ref (G.2.2.2 t)
  | none => .int (iI (r (i : Int)))
def zfs (G : zG) (r : Int → Int) : List (Option Nat) → Nat → List Value
  | [], _ => []
  | o :: ks, i => zf1 G r o i :: zfs G r ks (i + 1)
theorem zfs_c (G : zG) (r : Int → Int) (o : Option Nat) (ks : List (Option Nat)) (i : Nat) : zfs G r (o :: ks) i = zf1 G r o i :: zfs G r ks (i + 1) := rfl
theorem zfs_len (G : zG) (r : Int → Int) : ∀ (ks : List (Option Nat)) (i : Nat), (zfs G r ks i).length = ks.length
  | [], _ => rfl
  | _ :: ks, i => by rw [zfs_c, List.length_cons, List.length_cons, zfs_len G r ks (i + 1)]
theorem zfs_int (G : zG) (r : Int → Int) : ∀ (ks : List (Option Nat)) (i k : Nat), ks[k]? = some none → (zfs G r ks i)[k]? = some (.int (iI (r ((i + k : Nat) : Int))))
  | [], _, k, h => by simp at h
  | o :: ks, i, 0, h => by
    have ho : o = none := by simpa using h
    subst ho
    rfl
  | o :: ks, i, k + 1, h => by
    rw [zfs_c, List.getElem?_cons_succ, zfs_int G r ks (i + 1) k (by simpa using h), show i + 1 + k = i + (k + 1) by omega]
theorem zfs_ref (G : zG) (r : Int → Int) {t : Nat} : ∀ (ks : List (Option Nat)) (i k : Nat), ks[k]? = some (some t) → (zfs G r ks i)[k]? = some (.ref (G.2.2.2 t))
  | [], _, k, h => by simp at h
  | o :: ks, i, 0, h => by
    have ho : o = some t := by simpa using h
    subst ho
    rfl
  | o :: ks, i, k + 1, h => by
    rw [zfs_c, List.getElem?_cons_succ, zfs_ref G r ks (i + 1) k (by simpa using h)]
theorem zf1_cong (G : zG) {r r' : Int → Int} (o : Option Nat) (i : Nat) (h : r (i : Int) = r' (i : Int)) : zf1 G r o i = zf1 G r' o i := by
  cases o with
  | none => show Value.int (iI (r (i : Int))) = Value.int (iI (r' (i : Int))); rw [h]
  | some t => rfl
theorem zfs_cong (G : zG) {r r' : Int → Int} : ∀ (ks : List (Option Nat)) (i : Nat), (∀ j : Nat, i ≤ j → r (j : Int) = r' (j : Int)) → zfs G r ks i = zfs G r' ks i
  | [], _, _ => rfl
  | o :: ks, i, h => by
    rw [zfs_c, zfs_c, zfs_cong G ks (i + 1) (fun j hj => h j (by omega)), zf1_cong G o i (h i (Nat.le_refl i))]
theorem zfs_set (G : zG) (r : Int → Int) (v : Int) : ∀ (ks : List (Option Nat)) (i k : Nat), ks[k]? = some none → (zfs G r ks i).set k (.int (iI v)) = zfs G (fun b => if b = ((i + k : Nat) : Int) then v else r b) ks i
  | [], _, k, h => by simp at h
  | o :: ks, i, 0, h => by
    have ho : o = none := by simpa using h
    subst ho
    rw [zfs_c, zfs_c, List.set_cons_zero, zfs_cong G (r := r) (r' := fun b => if b = ((i + 0 : Nat) : Int) then v else r b) ks (i + 1) (fun j hj => by rw [if_neg (by omega)])]
    show _ = Value.int (iI (if (i : Int) = ((i + 0 : Nat) : Int) then v else r (i : Int))) :: _
    rw [if_pos (by omega)]
  | o :: ks, i, k + 1, h => by
    rw [zfs_c, zfs_c, List.set_cons_succ, zfs_set G r v ks (i + 1) k (by simpa using h), show i + 1 + k = i + (k + 1) by omega, zf1_cong G (r := r) (r' := fun b => if b = ((i + (k + 1) : Nat) : Int) then v else r b) o i (by rw [if_neg (by omega)])]
def zc (G : zG) (d : zD) (r : Int → Int) : va_E := match d with
  | .inl (ci, ks) => .inr (ci, zfs G r ks 0)
  | .inr (.inl n) => .inl (G.2.1, n, .inl (fun j => iI (r (j : Int))))
  | .inr (.inr (n, b)) => .inl (G.2.2.1, n, .inr (.inr (.inr (.inr (fun j => some (G.2.2.2 (b + j)))))))
/-- the world -/
def zW (G : zG) (μ : zM) : va_W := (List.range 68).map (fun i => (G.2.2.2 i, zc G (zd i) (μ i)))
theorem zW_get (G : zG) (μ : zM) {i : Nat} (h : i < 68) : (zW G μ)[i]? = some (G.2.2.2 i, zc G (zd i) (μ i)) := by
  rw [zW, List.getElem?_map, List.getElem?_range h]
  rfl
theorem zW_mem {G : zG} {μ : zM} {k : Nat} {q : Nat × va_E} (h : (zW G μ)[k]? = some q) : k < 68 ∧ q = (G.2.2.2 k, zc G (zd k) (μ k)) := by
  have hk : k < 68 := by
    have := (List.getElem?_eq_some_iff.mp h).1
    simpa [zW] using this
  rw [zW_get G μ hk] at h
  exact ⟨hk, (Option.some.inj h).symm⟩
theorem zW_set (G : zG) (μ : zM) {i : Nat} (h : i < 68) (j v : Int) : (zW G μ).set i (G.2.2.2 i, zc G (zd i) (fun b => if b = j then v else μ i b)) = zW G (zs μ i j v) := by
  apply List.ext_getElem?
  intro k
  by_cases hk : k = i
  · subst hk
    rw [List.getElem?_set_self (by simpa [zW] using h), zW_get G _ h]
    congr 3
    funext b
    rw [zs_at]
  · rw [List.getElem?_set_ne (Ne.symm hk)]
    by_cases h2 : k < 68
    · rw [zW_get G _ h2, zW_get G _ h2, zs_ne _ _ _ hk]
    · rw [List.getElem?_eq_none (by simp [zW]; omega), List.getElem?_eq_none (by simp [zW]; omega)]
/-- the cells that a method may change: the world's, and new ones -/
def zA (G : zG) (sz : Nat) : Nat → Prop := fun q => (∃ i, i < 68 ∧ q = G.2.2.2 i) ∨ sz ≤ q
theorem zA_va {G : zG} {μ : zM} {sz : Nat} {q : Nat} : va_A (zW G μ) sz q ↔ zA G sz q := by
  constructor
  · rintro (⟨k, e, h⟩ | h)
    · obtain ⟨h1, h2⟩ := zW_mem h
      exact Or.inl ⟨k, h1, congrArg Prod.fst h2⟩
    · exact Or.inr h
  · rintro (⟨i, h1, rfl⟩ | h)
    · exact Or.inl ⟨i, _, zW_get G μ h1⟩
    · exact Or.inr h
theorem zD_any {A : Nat → Prop} {G : zG} {μ : zM} (μ' : zM) (h : va_D A (zW G μ)) : va_D A (zW G μ') := by
  refine ⟨fun i j p q hp hq e => ?_, fun k q hq => ?_⟩
  · obtain ⟨h1, rfl⟩ := zW_mem hp
    obtain ⟨h2, rfl⟩ := zW_mem hq
    exact h.1 i j _ _ (zW_get G μ h1) (zW_get G μ h2) e
  · obtain ⟨h1, rfl⟩ := zW_mem hq
    exact h.2 k (G.2.2.2 k, zc G (zd k) (μ k)) (zW_get G μ h1)
theorem zD_A {A : Nat → Prop} {G : zG} {μ : zM} (h : va_D A (zW G μ)) {i : Nat} (hi : i < 68) : A (G.2.2.2 i) := h.2 i (G.2.2.2 i, zc G (zd i) (μ i)) (zW_get G μ hi)
theorem zD_weak {A B : Nat → Prop} {G : zG} {μ : zM} (h : va_D A (zW G μ)) (hB : ∀ i, i < 68 → B (G.2.2.2 i)) : va_D B (zW G μ) := ⟨h.1, fun k q hq => by
  obtain ⟨h1, rfl⟩ := zW_mem hq
  exact hB k h1⟩
/-- the six texts -/
def zLen : List Nat := [6, 3, 4, 3, 2, 0]
def zByt : List (List Int32) := [[109, 101, 116, 115, 104, 119], [75, 68, 59], [68, 68, 68, 59], [68, 68, 59], [68, 59], []]
/-- what is known of the tables, the texts and the statics at a start -/
def zNW : List (String × Nat × MethodName × String) := [(RX0, 31, yX5_otherStart, RX5), (RX1, 37, yX5_bitOf, RX5), (RX1, 59, yX5_otherStart, RX5), (RX1, 66, yX5_sideOf, RX5), (RX2, 54, yX5_sideOf, RX5), (RX2, 58, yX5_otherStart, RX5), (RX2, 74, yX5_bitOf, RX5), (RX3, 97, yX5_isLaw, RX5), (RX4, 40, yX5_sideOf, RX5), (RX4, 67, yX5_otherStart, RX5)]
def zSL : List (Nat × String × Nat) := [(53, "metshw", 0), (43, "KD;", 1), (45, "DDD;", 2), (47, "DD;", 3), (49, "D;", 4), (51, "", 5)]
