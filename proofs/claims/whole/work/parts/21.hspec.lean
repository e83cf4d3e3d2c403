/-! ways to hold; draws -/
abbrev sWR (v : zVw) (h : Int → Int) (p o : Int) : Prop := h p = -9 ∨ vA v p (h p) < vA v p o
abbrev sBo (v : zVw) (h : Int → Int) (l r : Int) : Prop := sWR v h l (5 + r) ∧ sWR v h (5 + r) l
def sFwR (v : zVw) (h : Int → Int) (l : Int) : Nat → Int → Int
  | 0, _ => -9
  | f + 1, r => if sBo v h l r then 10 * l + r else sFwR v h l f (r + 1)
def sFwL (v : zVw) (h : Int → Int) : Nat → Int → Int
  | 0, _ => -9
  | f + 1, l => if sFwR v h l (vR v).toNat 0 = -9 then sFwL v h f (l + 1) else sFwR v h l (vR v).toNat 0
def sFw (v : zVw) (h : Int → Int) : Int := sFwL v h (vL v).toNat 0
theorem sFwR_s (v : zVw) (h : Int → Int) (l : Int) {n b : Int} (hb : b < n) : sFwR v h l (n - b).toNat b = if sBo v h l b then 10 * l + b else sFwR v h l (n - (b + 1)).toNat (b + 1) := by
  rw [show (n - b).toNat = (n - (b + 1)).toNat + 1 by omega, sFwR]
theorem sFwL_s (v : zVw) (h : Int → Int) {n a : Int} (ha : a < n) : sFwL v h (n - a).toNat a = if sFwR v h a (vR v).toNat 0 = -9 then sFwL v h (n - (a + 1)).toNat (a + 1) else sFwR v h a (vR v).toNat 0 := by
  rw [show (n - a).toNat = (n - (a + 1)).toNat + 1 by omega, sFwL]
def zHs (m : zM) (h : Int → Int) : Prop := ∀ p, 0 ≤ p → p < 10 → m 28 p = h p
def zHb (h : Int → Int) : Prop := ∀ p, 0 ≤ p → p < 10 → h p = -9 ∨ zU p (h p)
def vC (v : zVw) (s : Int) : Int := if s = 0 then vL v else vR v
theorem vC_eq {μ : zM} {t : Nat} {v : zVw} (h : zT μ t v) {s : Int} (hs : s = 0 ∨ s = 1) : μ (t + 1) s = vC v s ∧ μ (t + 1) (1 - s) = vC v (1 - s) := by
  obtain ⟨h1, h2, -⟩ := h
  rcases hs with rfl | rfl
  · exact ⟨h1, h2⟩
  · exact ⟨h2, h1⟩
theorem vC_b {v : zVw} (ho : vOK v) (s : Int) : 0 ≤ vC v s ∧ vC v s ≤ 5 := by
  obtain ⟨o1, o2, -⟩ := ho
  unfold vC
  split <;> omega
/-- the way that a code tells: is it one, what is left of the code, who has whom -/
def sGv (v : zVw) (s c : Int) : Nat → Bool × Int × (Int → Int)
  | 0 => (true, c, fun _ => -9)
  | k + 1 => if (sGv v s c k).1 = true ∧ (sGv v s c k).2.2 (sOth (s * 5 + (k : Int)) ((sGv v s c k).2.1 % vC v (1 - s))) = -9 then (true, (sGv v s c k).2.1 / vC v (1 - s), fun x => if x = sOth (s * 5 + (k : Int)) ((sGv v s c k).2.1 % vC v (1 - s)) then s * 5 + (k : Int) else if x = s * 5 + (k : Int) then sOth (s * 5 + (k : Int)) ((sGv v s c k).2.1 % vC v (1 - s)) else (sGv v s c k).2.2 x) else (false, (sGv v s c k).2)
theorem sGv_s (v : zVw) (s c : Int) {j : Int} (h : 0 ≤ j) : sGv v s c (j + 1).toNat = if (sGv v s c j.toNat).1 = true ∧ (sGv v s c j.toNat).2.2 (sOth (s * 5 + j) ((sGv v s c j.toNat).2.1 % vC v (1 - s))) = -9 then (true, (sGv v s c j.toNat).2.1 / vC v (1 - s), fun x => if x = sOth (s * 5 + j) ((sGv v s c j.toNat).2.1 % vC v (1 - s)) then s * 5 + j else if x = s * 5 + j then sOth (s * 5 + j) ((sGv v s c j.toNat).2.1 % vC v (1 - s)) else (sGv v s c j.toNat).2.2 x) else (false, (sGv v s c j.toNat).2) := by
  rw [show (j + 1).toNat = j.toNat + 1 by omega, sGv, Int.toNat_of_nonneg h]
theorem sGv_no (v : zVw) (s c : Int) {k : Nat} (h : (sGv v s c k).1 = false) : ∀ n, (sGv v s c (k + n)).1 = false
  | 0 => h
  | n + 1 => by
    have h1 := sGv_no v s c h n
    rw [show k + (n + 1) = (k + n) + 1 by omega, sGv, h1, if_neg (fun q => by cases q.1)]
def sOk (v : zVw) (s c : Int) : Bool := (sGv v s c (vC v s).toNat).1
def sHas (v : zVw) (s c : Int) : Int → Int := (sGv v s c (vC v s).toNat).2.2
theorem sHas_b {v : zVw} (ho : vOK v) {s c : Int} (hs : s = 0 ∨ s = 1) (hc : 1 ≤ vC v (1 - s)) : ∀ k : Nat, k ≤ 5 → zHb (sGv v s c k).2.2
  | 0, _ => fun p _ _ => Or.inl rfl
  | k + 1, hk => by
    have h := sHas_b ho (c := c) hs hc k (by omega)
    have hb := vC_b ho (1 - s)
    have hm := zmodb (x := (sGv v s c k).2.1) (n := vC v (1 - s)) hc
    rw [sGv]
    by_cases q : (sGv v s c k).1 = true ∧ (sGv v s c k).2.2 (sOth (s * 5 + (k : Int)) ((sGv v s c k).2.1 % vC v (1 - s))) = -9
    · rw [if_pos q]
      intro p p0 p1
      show (if p = sOth (s * 5 + (k : Int)) ((sGv v s c k).2.1 % vC v (1 - s)) then s * 5 + (k : Int) else if p = s * 5 + (k : Int) then sOth (s * 5 + (k : Int)) ((sGv v s c k).2.1 % vC v (1 - s)) else (sGv v s c k).2.2 p) = -9 ∨ zU p (if p = sOth (s * 5 + (k : Int)) ((sGv v s c k).2.1 % vC v (1 - s)) then s * 5 + (k : Int) else if p = s * 5 + (k : Int) then sOth (s * 5 + (k : Int)) ((sGv v s c k).2.1 % vC v (1 - s)) else (sGv v s c k).2.2 p)
      have hu : zU (s * 5 + (k : Int)) (sOth (s * 5 + (k : Int)) ((sGv v s c k).2.1 % vC v (1 - s))) := by
        unfold sOth
        rcases hs with rfl | rfl <;> split <;> omega
      have := h p p0 p1
      split
      · omega
      · split
        · omega
        · exact this
    · rw [if_neg q]; exact h
def zPow (c : Int) : Nat → Int
  | 0 => 1
  | n + 1 => zPow c n * c
theorem zPow_s (c : Int) {j : Int} (h : 0 ≤ j) : zPow c (j + 1).toNat = zPow c j.toNat * c := by
  rw [show (j + 1).toNat = j.toNat + 1 by omega, zPow]
theorem zPow_b {c : Int} (hc : 0 ≤ c ∧ c ≤ 5) : ∀ n : Nat, 0 ≤ zPow c n ∧ zPow c n ≤ 5 ^ n
  | 0 => by show (0 : Int) ≤ 1 ∧ (1 : Int) ≤ 5 ^ 0; omega
  | n + 1 => by
    have h := zPow_b hc n
    rw [zPow]
    refine ⟨Int.mul_nonneg h.1 hc.1, ?_⟩
    rw [Int.pow_succ]
    exact Int.mul_le_mul h.2 hc.2 hc.1 (Int.le_trans h.1 h.2)
theorem zPow_5 {c : Int} (hc : 0 ≤ c ∧ c ≤ 5) {n : Nat} (hn : n ≤ 5) : 0 ≤ zPow c n ∧ zPow c n ≤ 3125 := by
  have h := zPow_b hc n
  rcases (by omega : n = 0 ∨ n = 1 ∨ n = 2 ∨ n = 3 ∨ n = 4 ∨ n = 5) with e | e | e | e | e | e <;> rw [e] at h ⊢ <;> exact ⟨h.1, Int.le_trans h.2 (by decide)⟩
def sSd (v : zVw) : Int := if vL v ≤ vR v then 0 else 1
def sFi (v : zVw) (s c : Int) : Int := if sOk v s c = true ∧ sFw v (sHas v s c) = -9 then 1 else 0
def sFirm (v : zVw) : Int := zSum (sFi v (sSd v)) (zPow (vC v (1 - sSd v)) (vC v (sSd v)).toNat).toNat
/-- draws -/
def sDz (z : Int) : Int := zw (z * 1664525 + 1013904223)
def sDv (z : Int) : Int := zand z 2147483647 / 256 % 10
theorem zand_pos (z : Int) : 0 ≤ zand z 2147483647 ∧ zand z 2147483647 < 2147483648 := by
  unfold zand
  have h := pk_and (iI z) (m := iI 2147483647) 31 (by decide)
  rw [h, nI_toInt (Nat.mod_lt _ (by decide))]
  have := Nat.mod_lt (iI z).toBitVec.toNat (show 0 < 2 ^ 31 by decide)
  omega
theorem sDv_b (z : Int) : 0 ≤ sDv z ∧ sDv z < 10 := by
  have := zand_pos z
  unfold sDv
  omega
def sDr (p : Int) : Nat → Int × zVw → Int × zVw
  | 0, x => x
  | i + 1, x => (sDz (sDr p i x).1, vLike (sDr p i x).2 p (sOth p (i : Int)) (sDv (sDz (sDr p i x).1)))
theorem sDr_s (p : Int) {j : Int} (h : 0 ≤ j) (x : Int × zVw) : sDr p (j + 1).toNat x = (sDz (sDr p j.toNat x).1, vLike (sDr p j.toNat x).2 p (sOth p j) (sDv (sDz (sDr p j.toNat x).1))) := by
  rw [show (j + 1).toNat = j.toNat + 1 by omega, sDr, Int.toNat_of_nonneg h]
def vF (v : zVw) (p : Int) : Int := if p < 5 then vR v else vL v
def sDa (v : zVw) : Nat → Int × zVw → Int × zVw
  | 0, x => x
  | p + 1, x => if vTh v (p : Int) then sDr (p : Int) (vF v (p : Int)).toNat (sDa v p x) else sDa v p x
theorem sDa_s (v : zVw) {j : Int} (h : 0 ≤ j) (x : Int × zVw) : sDa v (j + 1).toNat x = if vTh v j then sDr j (vF v j).toNat (sDa v j.toNat x) else sDa v j.toNat x := by
  rw [show (j + 1).toNat = j.toNat + 1 by omega, sDa, Int.toNat_of_nonneg h]
/-- the likings alone may differ -/
def vSame (v w : zVw) : Prop := vL w = vL v ∧ vR w = vR v ∧ vS w = vS v ∧ vH w = vH v ∧ vW w = vW v ∧ vK w = vK v ∧ vB w = vB v
theorem vSame_r (v : zVw) : vSame v v := ⟨rfl, rfl, rfl, rfl, rfl, rfl, rfl⟩
theorem vSame_like {v w : zVw} (h : vSame v w) (a b z : Int) : vSame v (vLike w a b z) := h
theorem sDr_k {v : zVw} {p : Int} {x : Int × zVw} (h : vSame v x.2 ∧ vOK x.2 ∧ zR x.1) : ∀ i : Nat, vSame v (sDr p i x).2 ∧ vOK (sDr p i x).2 ∧ zR (sDr p i x).1
  | 0 => h
  | i + 1 => by
    have h1 := sDr_k (p := p) h i
    have := sDv_b (sDz (sDr p i x).1)
    exact ⟨vSame_like h1.1 _ _ _, vLike_ok h1.2.1 (by omega), zw_R _⟩
theorem sDa_k {v : zVw} {x : Int × zVw} (h : vSame v x.2 ∧ vOK x.2 ∧ zR x.1) : ∀ i : Nat, vSame v (sDa v i x).2 ∧ vOK (sDa v i x).2 ∧ zR (sDa v i x).1
  | 0 => h
  | i + 1 => by
    have h1 := sDa_k h i
    rw [sDa]
    by_cases q : vTh v (i : Int)
    · rw [if_pos q]; exact sDr_k h1 _
    · rw [if_neg q]; exact h1
theorem sHas_ok {v : zVw} (ho : vOK v) {s c : Int} (hs : s = 0 ∨ s = 1) (hle : vC v s ≤ vC v (1 - s)) : zHb (sHas v s c) := by
  have h1 := vC_b ho s
  unfold sHas
  by_cases h : 1 ≤ vC v (1 - s)
  · exact sHas_b ho hs h _ (by omega)
  · rw [show (vC v s).toNat = 0 by omega]
    exact fun p _ _ => Or.inl rfl
