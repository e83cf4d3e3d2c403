/-! what is told, as numbers: (LEFT, RIGHT, STEP, SHIFT, LAW, KIND of one, BAR of one, LIKING of one of another) -/
abbrev zVw : Type := Int × Int × Int × Int × Int × (Int → Int) × (Int → Int) × (Int → Int → Int)
def vL (v : zVw) : Int := v.1
def vR (v : zVw) : Int := v.2.1
def vS (v : zVw) : Int := v.2.2.1
def vH (v : zVw) : Int := v.2.2.2.1
def vW (v : zVw) : Int := v.2.2.2.2.1
def vK (v : zVw) : Int → Int := v.2.2.2.2.2.1
def vB (v : zVw) : Int → Int := v.2.2.2.2.2.2.1
def vA (v : zVw) : Int → Int → Int := v.2.2.2.2.2.2.2
/-- two of unlike sides -/
abbrev zU (a b : Int) : Prop := (0 ≤ a ∧ a < 5 ∧ 5 ≤ b ∧ b < 10) ∨ (0 ≤ b ∧ b < 5 ∧ 5 ≤ a ∧ a < 10)
/-- the ranges -/
def vOK (v : zVw) : Prop := (0 ≤ vL v ∧ vL v ≤ 5) ∧ (0 ≤ vR v ∧ vR v ≤ 5) ∧ (1 ≤ vS v ∧ vS v ≤ 4) ∧ (0 ≤ vH v ∧ vH v ≤ 4) ∧ (0 ≤ vW v ∧ vW v ≤ 3) ∧ (∀ p, 0 ≤ p → p < 10 → (0 ≤ vK v p ∧ vK v p ≤ 5) ∧ (0 ≤ vB v p ∧ vB v p ≤ 9)) ∧ (∀ a b, zU a b → 0 ≤ vA v a b ∧ vA v a b ≤ 9)
/-- one there is -/
abbrev vTh (v : zVw) (p : Int) : Prop := (0 ≤ p ∧ p < 5 ∧ p < vL v) ∨ (5 ≤ p ∧ p < 10 ∧ p < 5 + vR v)
/-- how the class holds it: its object's cell t -/
def zT (μ : zM) (t : Nat) (v : zVw) : Prop := μ (t + 1) 0 = vL v ∧ μ (t + 1) 1 = vR v ∧ μ t 4 = vS v ∧ μ t 5 = vH v ∧ μ t 6 = vW v ∧ (∀ p, 0 ≤ p → p < 10 → μ (t + 2) p = vK v p ∧ μ (t + 3) p = vB v p) ∧ (∀ a b, zU a b → μ (t + 4) (a * 10 + b) = vA v a b)
theorem zto_lt {t : Nat} (h : zTo t) : t + 4 < 68 := by omega
theorem z_sub {X : zX} {nL : Nat} {μ : zM} {pc : Nat} {L L' : List (Nat × zV)} {st : List zV} (ks : List Nat) (h : ks.filterMap (fun k => L[k]?) = L') (K : zJ X nL μ pc L' st) : zJ X nL μ pc L st := by
  obtain ⟨p, l, e, R, s, m, args, below, meth, c, Q, A, G, cells, slots⟩ := X
  intro hr H locs ls hP hS hl
  refine K hr H locs ls hP hS (lv_sub hl ks ?_)
  rw [← h]
  unfold lv_pick
  rw [List.map_filterMap]
  congr 1
  funext k
  rw [List.getElem?_map]
/-- an int's rest, whatever its sign -/
theorem z_iremT {X : zX} {nL : Nat} {cc : ByteArray} {own : String} {Ts : List Cond} {f nw : Nat} {μ : zM} {pc : Nat} {L : List (Nat × zV)} {st : List zV} (C : zC X nL cc own Ts f nw) {a b : Int} (d : decode cc pc = .ok (.irem, 1)) (ha : zR a) (hb : 0 < b ∧ b < 2147483648) (K : zJ X nL μ (pc + 1) L (.inl (Int.tmod a b) :: st)) : zJ X nL μ pc L (.inl b :: .inl a :: st) := by
  have hb' : zR b := ⟨by omega, by omega⟩
  obtain ⟨p, l, e, R, s, m, args, below, meth, c, Q, A, G, cells, slots⟩ := X
  obtain ⟨hx, hbc, -⟩ := C
  intro hr H locs ls hP hS hl
  refine lv_irem (x := iI a) (y := iI b) hx hbc d (fun z => by rw [← iI_0, iI_eq hb' ⟨by omega, by omega⟩] at z; omega) ?_
  have h := Int32.ofInt_tdiv (a := a) (b := b) (by have := ha.1; have : Int32.minValue.toInt = -2147483648 := by decide
                                                   omega) (by have := ha.2; have : Int32.maxValue.toInt = 2147483647 := by decide
                                                              omega) (by have := hb'.1; have : Int32.minValue.toInt = -2147483648 := by decide
                                                                         omega) (by have := hb'.2; have : Int32.maxValue.toInt = 2147483647 := by decide
                                                                                    omega)
  have e1 : iI a - iI a / iI b * iI b = iI (Int.tmod a b) := by
    have e2 : iI a / iI b = iI (Int.tdiv a b) := h.symm
    rw [e2, iI_mul, iI_sub]
    congr 1
    have := Int.tmod_add_mul_tdiv a b
    have h3 : b * Int.tdiv a b = Int.tdiv a b * b := Int.mul_comm ..
    omega
  rw [e1]
  exact K hr H locs ls hP hS hl
/-- the bit of one among his side's -/
def zbit (p : Int) : Int := zshl 1 (p % 5)
theorem zbit_val : ∀ p : Int, 0 ≤ p → p < 10 → zbit p = if p % 5 = 0 then 1 else if p % 5 = 1 then 2 else if p % 5 = 2 then 4 else if p % 5 = 3 then 8 else 16 := by
  intro p h0 h1
  unfold zbit
  rcases (by omega : p % 5 = 0 ∨ p % 5 = 1 ∨ p % 5 = 2 ∨ p % 5 = 3 ∨ p % 5 = 4) with h | h | h | h | h <;> rw [h] <;> decide
theorem zxor_sign : ∀ a : Int, -64 ≤ a → a < 64 → ∀ b : Int, 1 ≤ b → b < 6 → (zR (zxor a b) ∧ (0 ≤ zxor a b ↔ 0 ≤ a)) := by
  have key : ((List.range 128).all fun i => (List.range 5).all fun j => decide (zR (zxor ((i : Int) - 64) ((j : Int) + 1)) ∧ (0 ≤ zxor ((i : Int) - 64) ((j : Int) + 1) ↔ 0 ≤ (i : Int) - 64))) = true := by decide +kernel
  intro a h1 h2 b h3 h4
  have h5 := List.all_eq_true.mp key (a + 64).toNat (List.mem_range.mpr (by omega))
  have h6 := List.all_eq_true.mp h5 (b - 1).toNat (List.mem_range.mpr (by omega))
  have e1 : ((a + 64).toNat : Int) - 64 = a := by omega
  have e2 : ((b - 1).toNat : Int) + 1 = b := by omega
  rw [e1, e2] at h6
  exact of_decide_eq_true h6
theorem tmod_mod {a b : Int} (hb : 0 < b) : a % b = if 0 ≤ a then Int.tmod a b else if Int.tmod a b = 0 then 0 else Int.tmod a b + b := by
  by_cases h : 0 ≤ a
  · rw [if_pos h, Int.tmod_eq_emod_of_nonneg h]
  · rw [if_neg h, Int.tmod_eq_emod]
    have h1 := Int.emod_nonneg a (show b ≠ 0 by omega)
    have h2 := Int.emod_lt_of_pos a hb
    by_cases hd : b ∣ a
    · have h3 := Int.emod_eq_zero_of_dvd hd
      simp [hd, h3]
    · have h3 : ¬ (0 ≤ a ∨ b ∣ a) := by rintro (q | q); exact h q; exact hd q
      rw [if_neg h3, show ((b.natAbs : Nat) : Int) = b by omega]
      have h4 : a % b ≠ 0 := fun q => hd (Int.dvd_of_emod_eq_zero q)
      split <;> omega
/-- the same, of a class of the JDK that has entries -/
theorem zMi_ofF {l : Launch} {y : MethodName} {cc : ByteArray} {nL f nw : Nat} {ty : FieldType} {as : List zV} {μ : zM} {post : Int → zM → Prop} {own : String} (hy : plainFor y = true) (hown : y.cls = own) (hn : as.length ≤ nL)
    (body : ∀ X : zX, zl X = l → zC X nL cc own (zws y cc nL (some ty)) f nw → zRM μ → (∀ {pc : Nat} {μ' : zM} {L : List (Nat × zV)} {r : Int}, decode cc pc = .ok (.ireturn, 1) → zR r → narrow ty (.int (iI r)) = .int (iI r) → post r μ' → zJ X nL μ' pc L [.inl r]) → zJ X nL μ 0 (zent 0 as) []) : zMi l y cc nL ty f nw as μ post := by
  intro G sz hr
  refine va_MetF (cc := cc) (maxL := nL) (ret := some ty) hy rfl ?_
  intro p e s m args below meth c s₁ B hml hv
  obtain ⟨rfl, hsz, hP, hD0, hE⟩ := hv
  subst hsz
  have hx := B.exec
  have hb := B.bytes
  have hrt := B.returns
  have hlocks := B.notSynchronized
  have hts := atoms_spec (ws := zws y cc nL (some ty)) B.pre
  have hcls : s.vm.findClass own = some m.cls := hown ▸ findClass_of_methodNamed B.named
  have hl := lv_entry (as.map (zv G)) (n := nL) (by rw [zsl_len]; exact hn)
  rw [lg_entry_eq]
  rw [zent_args] at hl
  have hA : ∀ q : Nat, s.heap.size ≤ q → zA G s.heap.size q := fun q h => Or.inr h
  have hD : va_D (zA G s.heap.size) (zW G (fun _ _ => 0)) := zD_weak (zD_any _ hD0) (fun i hi => Or.inl ⟨i, hi, rfl⟩)
  have J := body (p, l, e, (headSpec (zws y cc nL (some ty)) (zrm f nw)).room, s, m, (as.map (zv G)).toArray, below, meth, c, MQ below (va_Qi (fun (r : Int32) (u : Int × zM) => r = iI u.1 ∧ zR u.1 ∧ zRM u.2 ∧ post u.1 u.2) (fun u t => va_P G.1 vwCl (zW G u.2) t.heap) (zA G s.heap.size)) (as.map (zv G)).toArray s 0 0 (zA G s.heap.size), zA G s.heap.size, G, 0, 0) rfl ⟨hx, hb, hml, hcls, hts, fun w hw => List.mem_cons_of_mem _ hw, hA, hD, hE, Nat.le_refl _, Nat.le_refl _, Nat.zero_le _, Nat.zero_le _⟩ hr (by
    intro pc μ' L r d hR hn hp hrm H locs ls hP hS hl
    exact W.zret (v := iI r) hx hb hrt hn (fun t ht hW => ⟨⟨iI r, (r, μ'), rfl, ⟨rfl, hR, hrm, hp⟩, by show va_P G.1 vwCl (zW G μ') t.heap; rw [ht]; exact hP⟩, hS.F ht⟩) hS.2.2 d)
  exact J hr s.heap [] _ hP va_S.rf hl
