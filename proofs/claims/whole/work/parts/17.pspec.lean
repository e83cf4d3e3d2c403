/-! pairs: whom one likes most, who asks whom, as functions of what is told -/
theorem z_iushr {X : zX} {nL : Nat} {cc : ByteArray} {own : String} {Ts : List Cond} {f nw : Nat} {μ : zM} {pc : Nat} {L : List (Nat × zV)} {st : List zV} (C : zC X nL cc own Ts f nw) {a b : Int} (d : decode cc pc = .ok (.iushr, 1)) (K : zJ X nL μ (pc + 1) L (.inl (zushr a b) :: st)) : zJ X nL μ pc L (.inl b :: .inl a :: st) := by
  obtain ⟨p, l, e, R, s, m, args, below, meth, c, Q, A, G, cells, slots⟩ := X
  obtain ⟨hx, hb, -⟩ := C
  intro hr H locs ls hP hS hl
  refine lv_iushr (x := iI a) (y := iI b) hx hb d rfl ?_
  rw [← iI_of (((iI a).toUInt32 >>> ((iI b).toUInt32 &&& Int32.toUInt32 31)).toInt32)]
  exact K hr H locs ls hP hS hl
theorem zand_R (a b : Int) : zR (zand a b) := zR_toInt _
def sPop (s : Int) : Int := s % 2 + s / 2 % 2 + s / 4 % 2 + s / 8 % 2 + s / 16 % 2
def sB1 (x : Int) : Int := x - zand (zushr x 1) 1431655765
def sB2 (x : Int) : Int := zand x 858993459 + zand (zushr x 2) 858993459
def sB3 (x : Int) : Int := zand (x + zushr x 4) 252645135
def sB4 (x : Int) : Int := x + zushr x 8
def sB5 (x : Int) : Int := x + zushr x 16
theorem bc_val : ∀ x : Int, 0 ≤ x → x < 32 → zand (sB5 (sB4 (sB3 (sB2 (sB1 x))))) 63 = sPop x := by
  have key : ((List.range 32).all fun i => decide (zand (sB5 (sB4 (sB3 (sB2 (sB1 (i : Int)))))) 63 = sPop (i : Int))) = true := by decide +kernel
  intro x h1 h2
  have h := List.all_eq_true.mp key x.toNat (List.mem_range.mpr (by omega))
  rw [Int.toNat_of_nonneg h1] at h
  exact of_decide_eq_true h
/-- whom of the set s one likes most (0 .. 9; -9 nobody) -/
def sFavN (v : zVw) (p s : Int) : Nat → Int
  | 0 => -9
  | i + 1 => if (¬ zand s (zbit (sOth p (i : Int))) = 0) ∧ (sFavN v p s i = -9 ∨ vA v p (sFavN v p s i) < vA v p (sOth p (i : Int))) then sOth p (i : Int) else sFavN v p s i
def sFav (v : zVw) (p s : Int) : Int := sFavN v p s 5
theorem sFavN_s (v : zVw) (p s : Int) {j : Int} (h : 0 ≤ j) : sFavN v p s (j + 1).toNat = if (¬ zand s (zbit (sOth p j)) = 0) ∧ (sFavN v p s j.toNat = -9 ∨ vA v p (sFavN v p s j.toNat) < vA v p (sOth p j)) then sOth p j else sFavN v p s j.toNat := by
  rw [show (j + 1).toNat = j.toNat + 1 by omega, sFavN, Int.toNat_of_nonneg h]
theorem sFavN_U (v : zVw) {p : Int} (s : Int) (hp : 0 ≤ p ∧ p < 10) : ∀ i : Nat, i ≤ 5 → sFavN v p s i = -9 ∨ (zU p (sFavN v p s i) ∧ ¬ zand s (zbit (sFavN v p s i)) = 0)
  | 0, _ => Or.inl rfl
  | i + 1, hi => by
    have h := sFavN_U v s hp i (by omega)
    rw [sFavN]
    by_cases q : (¬ zand s (zbit (sOth p (i : Int))) = 0) ∧ (sFavN v p s i = -9 ∨ vA v p (sFavN v p s i) < vA v p (sOth p (i : Int)))
    · rw [if_pos q]
      refine Or.inr ⟨?_, q.1⟩
      unfold sOth
      split <;> omega
    · rw [if_neg q]; exact h
theorem sFav_U (v : zVw) {p : Int} (s : Int) (hp : 0 ≤ p ∧ p < 10) : sFav v p s = -9 ∨ (zU p (sFav v p s) ∧ ¬ zand s (zbit (sFav v p s)) = 0) := sFavN_U v s hp 5 (by omega)
abbrev sBef (v : zVw) (q a b : Int) : Prop := vA v q b < vA v q a ∨ (vA v q a = vA v q b ∧ a < b)
theorem zdel_b : ∀ s : Int, 0 ≤ s → s < 32 → ∀ p : Int, 0 ≤ p → p < 10 → 0 ≤ zand s (zxor (zbit p) (-1)) ∧ zand s (zxor (zbit p) (-1)) < 32 := by
  have key : ((List.range 32).all fun i => (List.range 10).all fun j => decide (0 ≤ zand (i : Int) (zxor (zbit (j : Int)) (-1)) ∧ zand (i : Int) (zxor (zbit (j : Int)) (-1)) < 32)) = true := by decide +kernel
  intro s h1 h2 p h3 h4
  have h5 := List.all_eq_true.mp key s.toNat (List.mem_range.mpr (by omega))
  have h6 := List.all_eq_true.mp h5 p.toNat (List.mem_range.mpr (by omega))
  rw [Int.toNat_of_nonneg h1, Int.toNat_of_nonneg h3] at h6
  exact of_decide_eq_true h6
theorem zandn_b : ∀ s : Int, 0 ≤ s → s < 32 → ∀ c : Int, 0 ≤ c → c < 32 → 0 ≤ zand s (zxor c (-1)) ∧ zand s (zxor c (-1)) < 32 := by
  have key : ((List.range 32).all fun i => (List.range 32).all fun j => decide (0 ≤ zand (i : Int) (zxor (j : Int) (-1)) ∧ zand (i : Int) (zxor (j : Int) (-1)) < 32)) = true := by decide +kernel
  intro s h1 h2 p h3 h4
  have h5 := List.all_eq_true.mp key s.toNat (List.mem_range.mpr (by omega))
  have h6 := List.all_eq_true.mp h5 p.toNat (List.mem_range.mpr (by omega))
  rw [Int.toNat_of_nonneg h1, Int.toNat_of_nonneg h3] at h6
  exact of_decide_eq_true h6
/-- the m whom one likes most of the set s -/
def sLkN (v : zVw) (p s : Int) : Nat → Int
  | 0 => 0
  | i + 1 => if sFav v p (zand s (zxor (sLkN v p s i) (-1))) = -9 then sLkN v p s i else zor (sLkN v p s i) (zbit (sFav v p (zand s (zxor (sLkN v p s i) (-1)))))
theorem sLkN_s (v : zVw) (p s : Int) {j : Int} (h : 0 ≤ j) : sLkN v p s (j + 1).toNat = if sFav v p (zand s (zxor (sLkN v p s j.toNat) (-1))) = -9 then sLkN v p s j.toNat else zor (sLkN v p s j.toNat) (zbit (sFav v p (zand s (zxor (sLkN v p s j.toNat) (-1))))) := by
  rw [show (j + 1).toNat = j.toNat + 1 by omega, sLkN]
theorem sLkN_b (v : zVw) {p : Int} (s : Int) (hp : 0 ≤ p ∧ p < 10) : ∀ i : Nat, 0 ≤ sLkN v p s i ∧ sLkN v p s i < 32
  | 0 => by show (0 : Int) ≤ 0 ∧ (0 : Int) < 32; omega
  | i + 1 => by
    have h := sLkN_b v s hp i
    rw [sLkN]
    by_cases q : sFav v p (zand s (zxor (sLkN v p s i) (-1))) = -9
    · rw [if_pos q]; exact h
    · rw [if_neg q]
      have hu := sFav_U v (zand s (zxor (sLkN v p s i) (-1))) hp
      exact zor_bit _ h.1 h.2 _ (by omega) (by omega)
/-- asking: whom each has, whom each may still ask -/
abbrev zAS : Type := (Int → Int) × (Int → Int)
def zAs (m : zM) (σ : zAS) : Prop := ∀ p, 0 ≤ p → p < 10 → m 24 p = σ.1 p ∧ m 26 p = σ.2 p
def zAb (σ : zAS) : Prop := ∀ p, 0 ≤ p → p < 10 → (σ.1 p = -9 ∨ zU p (σ.1 p)) ∧ (0 ≤ σ.2 p ∧ σ.2 p < 32)
def sFstF (σ : zAS) : Nat → Int → Int
  | 0, _ => -9
  | f + 1, p => if σ.1 p = -9 ∧ ¬ σ.2 p = 0 then p else sFstF σ f (p + 1)
def sFst (σ : zAS) : Int := sFstF σ 10 0
theorem sFstF_s (σ : zAS) {i : Int} (h : 0 ≤ i ∧ i < 10) : sFstF σ (10 - i).toNat i = if σ.1 i = -9 ∧ ¬ σ.2 i = 0 then i else sFstF σ (10 - (i + 1)).toNat (i + 1) := by
  rw [show (10 - i).toNat = (10 - (i + 1)).toNat + 1 by omega, sFstF]
theorem sFstF_U (σ : zAS) : ∀ (f : Nat) (p : Int), 0 ≤ p → p + (f : Int) ≤ 10 → sFstF σ f p = -9 ∨ (p ≤ sFstF σ f p ∧ sFstF σ f p < 10 ∧ σ.1 (sFstF σ f p) = -9 ∧ ¬ σ.2 (sFstF σ f p) = 0)
  | 0, p, _, _ => Or.inl rfl
  | f + 1, p, h0, h1 => by
    rw [sFstF]
    by_cases q : σ.1 p = -9 ∧ ¬ σ.2 p = 0
    · rw [if_pos q]; exact Or.inr ⟨by omega, by omega, q.1, q.2⟩
    · rw [if_neg q]
      rcases sFstF_U σ f (p + 1) (by omega) (by omega) with z | ⟨z1, z2, z3, z4⟩
      · exact Or.inl z
      · exact Or.inr ⟨by omega, z2, z3, z4⟩
theorem sFst_U (σ : zAS) : sFst σ = -9 ∨ (0 ≤ sFst σ ∧ sFst σ < 10 ∧ σ.1 (sFst σ) = -9 ∧ ¬ σ.2 (sFst σ) = 0) := sFstF_U σ 10 0 (by omega) (by omega)
def sStp (v : zVw) (σ : zAS) (a : Int) : zAS :=
  if sFav v a (σ.2 a) = -9 then σ
  else if (¬ σ.1 (sFav v a (σ.2 a)) = -9) ∧ ¬ sBef v (sFav v a (σ.2 a)) a (σ.1 (sFav v a (σ.2 a))) then (σ.1, fun x => if x = a then zand (σ.2 a) (zxor (zbit (sFav v a (σ.2 a))) (-1)) else σ.2 x)
  else (fun x => if x = a then sFav v a (σ.2 a) else if x = sFav v a (σ.2 a) then a else if x = σ.1 (sFav v a (σ.2 a)) then -9 else σ.1 x, fun x => if x = a then zand (σ.2 a) (zxor (zbit (sFav v a (σ.2 a))) (-1)) else σ.2 x)
theorem sStp_b {v : zVw} {σ : zAS} {a : Int} (h : zAb σ) (ha : 0 ≤ a ∧ a < 10) : zAb (sStp v σ a) := by
  have hu := sFav_U v (σ.2 a) ha
  have h2 := (h a ha.1 ha.2).2
  unfold sStp
  by_cases q : sFav v a (σ.2 a) = -9
  · rw [if_pos q]; exact h
  · rw [if_neg q]
    have hd := zdel_b (σ.2 a) h2.1 h2.2 (sFav v a (σ.2 a)) (by omega) (by omega)
    by_cases q2 : (¬ σ.1 (sFav v a (σ.2 a)) = -9) ∧ ¬ sBef v (sFav v a (σ.2 a)) a (σ.1 (sFav v a (σ.2 a)))
    · rw [if_pos q2]
      intro p p0 p1
      refine ⟨(h p p0 p1).1, ?_⟩
      have := (h p p0 p1).2
      show 0 ≤ (if p = a then _ else σ.2 p) ∧ (if p = a then _ else σ.2 p) < 32
      split <;> omega
    · rw [if_neg q2]
      intro p p0 p1
      have h3 := (h p p0 p1).1
      refine ⟨?_, ?_⟩
      · show (if p = a then sFav v a (σ.2 a) else if p = sFav v a (σ.2 a) then a else if p = σ.1 (sFav v a (σ.2 a)) then -9 else σ.1 p) = -9 ∨ zU p (if p = a then sFav v a (σ.2 a) else if p = sFav v a (σ.2 a) then a else if p = σ.1 (sFav v a (σ.2 a)) then -9 else σ.1 p)
        split
        · omega
        · split
          · omega
          · split
            · exact Or.inl rfl
            · exact h3
      · have := (h p p0 p1).2
        show 0 ≤ (if p = a then _ else σ.2 p) ∧ (if p = a then _ else σ.2 p) < 32
        split <;> omega
def sIn (v : zVw) (s : Int) : zAS := (fun _ => -9, fun p => if vTh v p ∧ ((p < 5 ∧ s = 0) ∨ (5 ≤ p ∧ s = 1)) then zshl 1 (if p < 5 then vR v else vL v) - 1 else 0)
def sIt (v : zVw) (σ : zAS) : Nat → zAS
  | 0 => σ
  | k + 1 => if sFst (sIt v σ k) = -9 then sIt v σ k else sStp v (sIt v σ k) (sFst (sIt v σ k))
theorem sIt_b {v : zVw} {σ : zAS} (h : zAb σ) : ∀ k, zAb (sIt v σ k)
  | 0 => h
  | k + 1 => by
    have h1 := sIt_b (v := v) h k
    rw [sIt]
    by_cases q : sFst (sIt v σ k) = -9
    · rw [if_pos q]; exact h1
    · rw [if_neg q]
      have hu := sFst_U (sIt v σ k)
      exact sStp_b h1 (by omega)
theorem sIt_stop {v : zVw} {σ : zAS} {k : Nat} (h : sFst (sIt v σ k) = -9) : ∀ n, sIt v σ (k + n) = sIt v σ k
  | 0 => rfl
  | n + 1 => by
    have h1 := sIt_stop (v := v) h n
    rw [show k + (n + 1) = (k + n) + 1 by omega, sIt, h1, if_pos h]
theorem sIn_b {v : zVw} (ho : vOK v) (s : Int) : zAb (sIn v s) := by
  obtain ⟨o1, o2, -⟩ := ho
  intro p p0 p1
  refine ⟨Or.inl rfl, ?_⟩
  show 0 ≤ (if vTh v p ∧ ((p < 5 ∧ s = 0) ∨ (5 ≤ p ∧ s = 1)) then zshl 1 (if p < 5 then vR v else vL v) - 1 else 0) ∧ (if vTh v p ∧ ((p < 5 ∧ s = 0) ∨ (5 ≤ p ∧ s = 1)) then zshl 1 (if p < 5 then vR v else vL v) - 1 else 0) < 32
  have h1 := zshl_b (vR v) o2.1 o2.2
  have h2 := zshl_b (vL v) o1.1 o1.2
  split
  · split <;> omega
  · omega
theorem zAs_0 {m μ : zM} {σ : zAS} (h : zAs μ σ) (hf : ∀ x, x = 24 ∨ x = 26 → m x = μ x) : zAs m σ := fun p p0 p1 => by
  rw [hf 24 (Or.inl rfl), hf 26 (Or.inr rfl)]
  exact h p p0 p1
