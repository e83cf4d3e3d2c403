/-! who meets whom, what is felt, what is said: as functions of what is told -/
def sAl (v : zVw) (k : Int) : Int := vH v + k * vS v
def sMet (v : zVw) (p k : Int) : Int := if p < 5 then (if (p + sAl v k) % vN v < vR v then 5 + (p + sAl v k) % vN v else -9) else (if (p - 5 - sAl v k) % vN v < vL v then (p - 5 - sAl v k) % vN v else -9)
def sPar (v : zVw) (p k : Int) : Int := if k < vN v ∧ vTh v p then sMet v p k else -9
def sFeel (v : zVw) (p o k : Int) : Int :=
  if vK v p = 1 then (if k = 0 then vA v p o - 2 else vA v p o)
  else if vK v p = 2 then vA v p o - k / 2
  else if vK v p = 3 then (if 0 < k ∧ ¬ sPar v p (k - 1) = -9 ∧ vA v p o < vA v p (sPar v p (k - 1)) then vA v p o - 3 else vA v p o)
  else if vK v p = 4 then (if 5 ≤ vA v o p then vA v p o + 1 else vA v p o - 1)
  else if vK v p = 5 then vA v p o - k / 2 - (if 0 < k ∧ sPar v p (k - 1) = -9 then 1 else 0)
  else vA v p o
def sFl (v : zVw) (p k : Int) : Int := if sPar v p k = -9 then 999 else sFeel v p (sPar v p k) k
/-- in round k one says yes -/
abbrev sSay (v : zVw) (p k : Int) : Prop := ¬ sPar v p k = -9 ∧ vB v p ≤ sFeel v p (sPar v p k) k
def sSlN (v : zVw) (p : Int) : Nat → Int
  | 0 => 0
  | k + 1 => if sSay v p (k : Int) then zor (sSlN v p k) (zbit (sPar v p (k : Int))) else sSlN v p k
def sSl (v : zVw) (p : Int) : Int := sSlN v p 5
abbrev sShade (v : zVw) (p k : Int) : Prop := ¬ sPar v p k = -9 ∧ ¬ sFeel v p (sPar v p k) k = vA v p (sPar v p k)
def sShN (v : zVw) (p : Int) : Nat → Int
  | 0 => 0
  | k + 1 => sShN v p k + (if sShade v p (k : Int) then 1 else 0)
def sSh (v : zVw) : Nat → Int
  | 0 => 0
  | p + 1 => sSh v p + sShN v (p : Int) 5
theorem zmulb {k s : Int} (hk : 0 ≤ k ∧ k ≤ 4) (hs : 0 ≤ s ∧ s ≤ 4) : 0 ≤ k * s ∧ k * s ≤ 16 := ⟨Int.mul_nonneg hk.1 hs.1, by
  have := Int.mul_le_mul hk.2 hs.2 hs.1 (by omega)
  omega⟩
theorem zmodb {x n : Int} (h : 1 ≤ n) : 0 ≤ x % n ∧ x % n < n := ⟨Int.emod_nonneg x (by omega), Int.emod_lt_of_pos x (by omega)⟩
theorem sMet_U {v : zVw} (ho : vOK v) {p k : Int} (hp : vTh v p) : sMet v p k = -9 ∨ (vTh v (sMet v p k) ∧ zU p (sMet v p k)) := by
  obtain ⟨h1, h2, h3, h4⟩ := vN_ok ho
  obtain ⟨o1, o2, -⟩ := id ho
  unfold sMet
  have a1 := zmodb (x := p + sAl v k) (n := vN v) (by omega)
  have a2 := zmodb (x := p - 5 - sAl v k) (n := vN v) (by omega)
  generalize (p + sAl v k) % vN v = x1 at *
  generalize (p - 5 - sAl v k) % vN v = x2 at *
  split <;> split <;> omega
theorem sPar_U {v : zVw} (ho : vOK v) {p k : Int} : sPar v p k = -9 ∨ (vTh v p ∧ k < vN v ∧ vTh v (sPar v p k) ∧ zU p (sPar v p k)) := by
  unfold sPar
  by_cases h : k < vN v ∧ vTh v p
  · rw [if_pos h]
    rcases sMet_U ho (k := k) h.2 with q | q
    · exact Or.inl q
    · exact Or.inr ⟨h.2, h.1, q⟩
  · rw [if_neg h]
    exact Or.inl rfl
theorem zor_bit : ∀ s : Int, 0 ≤ s → s < 32 → ∀ p : Int, 0 ≤ p → p < 10 → 0 ≤ zor s (zbit p) ∧ zor s (zbit p) < 32 := by
  have key : ((List.range 32).all fun i => (List.range 10).all fun j => decide (0 ≤ zor (i : Int) (zbit (j : Int)) ∧ zor (i : Int) (zbit (j : Int)) < 32)) = true := by decide +kernel
  intro s h1 h2 p h3 h4
  have h5 := List.all_eq_true.mp key s.toNat (List.mem_range.mpr (by omega))
  have h6 := List.all_eq_true.mp h5 p.toNat (List.mem_range.mpr (by omega))
  rw [Int.toNat_of_nonneg h1, Int.toNat_of_nonneg h3] at h6
  exact of_decide_eq_true h6
theorem sSlN_b {v : zVw} (ho : vOK v) (p : Int) : ∀ k, 0 ≤ sSlN v p k ∧ sSlN v p k < 32
  | 0 => by show (0 : Int) ≤ 0 ∧ (0 : Int) < 32; omega
  | k + 1 => by
    have h := sSlN_b ho p k
    rw [sSlN]
    by_cases q : sSay v p (k : Int)
    · rw [if_pos q]
      have h1 := sPar_U ho (p := p) (k := (k : Int))
      have h2 := q.1
      exact zor_bit _ h.1 h.2 _ (by omega) (by omega)
    · rw [if_neg q]; exact h
theorem sShN_b (v : zVw) (p : Int) : ∀ k : Nat, 0 ≤ sShN v p k ∧ sShN v p k ≤ (k : Int)
  | 0 => by show (0 : Int) ≤ 0 ∧ (0 : Int) ≤ ((0 : Nat) : Int); omega
  | k + 1 => by
    have h := sShN_b v p k
    rw [sShN]
    split <;> omega
theorem sSh_b (v : zVw) : ∀ p : Nat, 0 ≤ sSh v p ∧ sSh v p ≤ 5 * (p : Int)
  | 0 => by show (0 : Int) ≤ 0 ∧ (0 : Int) ≤ 5 * ((0 : Nat) : Int); omega
  | p + 1 => by
    have h := sSh_b v p
    have h2 := sShN_b v (p : Int) 5
    rw [sSh]
    omega
theorem sSlN_s (v : zVw) (p : Int) {j : Int} (h : 0 ≤ j) : sSlN v p (j + 1).toNat = if sSay v p j then zor (sSlN v p j.toNat) (zbit (sPar v p j)) else sSlN v p j.toNat := by
  rw [show (j + 1).toNat = j.toNat + 1 by omega, sSlN, Int.toNat_of_nonneg h]
theorem sShN_s (v : zVw) (p : Int) {j : Int} (h : 0 ≤ j) : sShN v p (j + 1).toNat = sShN v p j.toNat + (if sShade v p j then 1 else 0) := by
  rw [show (j + 1).toNat = j.toNat + 1 by omega, sShN, Int.toNat_of_nonneg h]
theorem sSh_s (v : zVw) {i : Int} (h : 0 ≤ i) : sSh v (i + 1).toNat = sSh v i.toNat + sShN v i 5 := by
  rw [show (i + 1).toNat = i.toNat + 1 by omega, sSh, Int.toNat_of_nonneg h]
theorem sFeel_b {v : zVw} (ho : vOK v) {p o k : Int} (hk : 0 ≤ k ∧ k < 5) (h : zU p o) : -4 ≤ sFeel v p o k ∧ sFeel v p o k ≤ 10 := by
  obtain ⟨-, -, -, -, -, -, h7⟩ := ho
  have a1 := h7 p o h
  unfold sFeel
  repeat' split
  all_goals omega
/-- the tables, held for the first i (sh: shaded so far) -/
def zHd (μ m : zM) (v : zVw) (i sh : Int) : Prop := (∀ a, a < 48 → a ≠ 18 → a ≠ 21 → m a = μ a) ∧ m 18 4 = vN v ∧ m 18 3 = sh ∧ (∀ p, 0 ≤ p → p < i → m 21 p = sSl v p) ∧ (∀ p k, 0 ≤ p → p < i → 0 ≤ k → k < 5 → m (48 + p.toNat) k = sPar v p k ∧ m (58 + p.toNat) k = sFl v p k)
/-- the tables, held -/
def zH (m : zM) (v : zVw) : Prop := m 18 4 = vN v ∧ m 18 3 = sSh v 10 ∧ (∀ p, 0 ≤ p → p < 10 → m 21 p = sSl v p) ∧ (∀ p k, 0 ≤ p → p < 10 → 0 ≤ k → k < 5 → m (48 + p.toNat) k = sPar v p k ∧ m (58 + p.toNat) k = sFl v p k)
theorem zHd_row1 {μ m : zM} {v : zVw} {i sh : Int} (h : zHd μ m v i sh) (hi : 0 ≤ i ∧ i < 10) (x z : Int) : zHd μ (zs m (48 + i.toNat) x z) v i sh := by
  obtain ⟨h1, h2, h3, h4, h5⟩ := h
  refine ⟨fun a a1 a2 a3 => ?_, ?_, ?_, fun p p0 p1 => ?_, fun p k p0 p1 k0 k1 => ?_⟩
  · rw [zs_ne _ _ _ (by omega)]; exact h1 a a1 a2 a3
  · rw [zs_ne _ _ _ (by omega)]; exact h2
  · rw [zs_ne _ _ _ (by omega)]; exact h3
  · rw [zs_ne _ _ _ (by omega)]; exact h4 p p0 p1
  · rw [zs_ne _ _ _ (by omega), zs_ne _ _ _ (by omega)]; exact h5 p k p0 p1 k0 k1
theorem zHd_row2 {μ m : zM} {v : zVw} {i sh : Int} (h : zHd μ m v i sh) (hi : 0 ≤ i ∧ i < 10) (x z : Int) : zHd μ (zs m (58 + i.toNat) x z) v i sh := by
  obtain ⟨h1, h2, h3, h4, h5⟩ := h
  refine ⟨fun a a1 a2 a3 => ?_, ?_, ?_, fun p p0 p1 => ?_, fun p k p0 p1 k0 k1 => ?_⟩
  · rw [zs_ne _ _ _ (by omega)]; exact h1 a a1 a2 a3
  · rw [zs_ne _ _ _ (by omega)]; exact h2
  · rw [zs_ne _ _ _ (by omega)]; exact h3
  · rw [zs_ne _ _ _ (by omega)]; exact h4 p p0 p1
  · rw [zs_ne _ _ _ (by omega), zs_ne _ _ _ (by omega)]; exact h5 p k p0 p1 k0 k1
theorem zHd_slip {μ m : zM} {v : zVw} {i sh : Int} (h : zHd μ m v i sh) (z : Int) : zHd μ (zs m 21 i z) v i sh := by
  obtain ⟨h1, h2, h3, h4, h5⟩ := h
  refine ⟨fun a a1 a2 a3 => ?_, ?_, ?_, fun p p0 p1 => ?_, fun p k p0 p1 k0 k1 => ?_⟩
  · rw [zs_ne _ _ _ (by omega)]; exact h1 a a1 a2 a3
  · rw [zs_ne _ _ _ (by omega)]; exact h2
  · rw [zs_ne _ _ _ (by omega)]; exact h3
  · rw [zs_ne2 _ _ _ (by omega)]; exact h4 p p0 p1
  · rw [zs_ne _ _ _ (by omega), zs_ne _ _ _ (by omega)]; exact h5 p k p0 p1 k0 k1

theorem zHd_feel {μ m m' : zM} {v : zVw} {i j sh : Int} (h : zHd μ m v i sh) (hi : 0 ≤ i ∧ i < 10) (e1 : ∀ a x, ¬ (a = 58 + i.toNat ∧ x = j) → ¬ (a = 21 ∧ x = i) → ¬ (a = 18 ∧ x = 3) → m' a x = m a x) (e2 : ∀ a, a < 48 → a ≠ 18 → a ≠ 21 → m' a = m a) {sh' : Int} (e3 : m' 18 3 = sh') : zHd μ m' v i sh' := by
  obtain ⟨h1, h2, h3, h4, h5⟩ := h
  refine ⟨fun a a1 a2 a3 => ?_, ?_, e3, fun p p0 p1 => ?_, fun p k p0 p1 k0 k1 => ?_⟩
  · rw [e2 a a1 a2 a3]; exact h1 a a1 a2 a3
  · rw [e1 18 4 (by omega) (by omega) (by omega)]; exact h2
  · rw [e1 21 p (by omega) (by omega) (by omega)]; exact h4 p p0 p1
  · rw [e1 _ k (by omega) (by omega) (by omega), e1 _ k (by omega) (by omega) (by omega)]; exact h5 p k p0 p1 k0 k1
theorem zHd_next {μ m : zM} {v : zVw} {i j sh sh' : Int} (h : zHd μ m v i sh) (hi : 0 ≤ i ∧ i < 10) (hj : 5 ≤ j) (h1 : ∀ k, 0 ≤ k → k < 5 → m (48 + i.toNat) k = sPar v i k) (h2 : ∀ k, 0 ≤ k → k < j → m (58 + i.toNat) k = sFl v i k) (h3 : m 21 i = sSl v i) (he : sh = sh') : zHd μ m v (i + 1) sh' := by
  subst he
  obtain ⟨g1, g2, g3, g4, g5⟩ := h
  refine ⟨g1, g2, g3, fun p p0 p1 => ?_, fun p k p0 p1 k0 k1 => ?_⟩
  · by_cases e : p = i
    · subst e; exact h3
    · exact g4 p p0 (by omega)
  · by_cases e : p = i
    · subst e; exact ⟨h1 k k0 k1, h2 k k0 (by omega)⟩
    · exact g5 p k p0 (by omega) k0 k1
/-- gaps -/
def sGpN (v : zVw) (p : Int) : Nat → Int
  | 0 => 0
  | k + 1 => sGpN v p k + (if sPar v p (k : Int) = -9 then 1 else 0)
def sGap (v : zVw) (p : Int) : Int := sGpN v p (vN v).toNat
theorem sGpN_s (v : zVw) (p : Int) {j : Int} (h : 0 ≤ j) : sGpN v p (j + 1).toNat = sGpN v p j.toNat + (if sPar v p j = -9 then 1 else 0) := by
  rw [show (j + 1).toNat = j.toNat + 1 by omega, sGpN, Int.toNat_of_nonneg h]
theorem sGpN_b (v : zVw) (p : Int) : ∀ k : Nat, 0 ≤ sGpN v p k ∧ sGpN v p k ≤ (k : Int)
  | 0 => by show (0 : Int) ≤ 0 ∧ (0 : Int) ≤ ((0 : Nat) : Int); omega
  | k + 1 => by
    have h := sGpN_b v p k
    rw [sGpN]
    split <;> omega
def sGaN (v : zVw) : Nat → Int
  | 0 => 0
  | p + 1 => sGaN v p + (if vTh v (p : Int) then sGap v (p : Int) else 0)
theorem sGaN_s (v : zVw) {i : Int} (h : 0 ≤ i) : sGaN v (i + 1).toNat = sGaN v i.toNat + (if vTh v i then sGap v i else 0) := by
  rw [show (i + 1).toNat = i.toNat + 1 by omega, sGaN, Int.toNat_of_nonneg h]
theorem sGap_b {v : zVw} (ho : vOK v) (p : Int) : 0 ≤ sGap v p ∧ sGap v p ≤ 5 := by
  have h := sGpN_b v p (vN v).toNat
  obtain ⟨h1, -⟩ := vN_ok ho
  unfold sGap
  omega
theorem sGaN_b {v : zVw} (ho : vOK v) : ∀ p : Nat, 0 ≤ sGaN v p ∧ sGaN v p ≤ 5 * (p : Int)
  | 0 => by show (0 : Int) ≤ 0 ∧ (0 : Int) ≤ 5 * ((0 : Nat) : Int); omega
  | p + 1 => by
    have h := sGaN_b ho p
    have h2 := sGap_b ho (p : Int)
    rw [sGaN]
    split <;> omega
/-- bits of a set of five -/
theorem zor_has : ∀ s : Int, 0 ≤ s → s < 32 → ∀ p : Int, 0 ≤ p → p < 10 → ∀ q : Int, 0 ≤ q → q < 10 → ((¬ zand (zor s (zbit p)) (zbit q) = 0) ↔ ((¬ zand s (zbit q) = 0) ∨ p % 5 = q % 5)) := by
  have key : ((List.range 32).all fun i => (List.range 10).all fun j => (List.range 10).all fun k => decide ((¬ zand (zor (i : Int) (zbit (j : Int))) (zbit (k : Int)) = 0) ↔ ((¬ zand (i : Int) (zbit (k : Int)) = 0) ∨ (j : Int) % 5 = (k : Int) % 5))) = true := by decide +kernel
  intro s h1 h2 p h3 h4 q h5 h6
  have g1 := List.all_eq_true.mp key s.toNat (List.mem_range.mpr (by omega))
  have g2 := List.all_eq_true.mp g1 p.toNat (List.mem_range.mpr (by omega))
  have g3 := List.all_eq_true.mp g2 q.toNat (List.mem_range.mpr (by omega))
  rw [Int.toNat_of_nonneg h1, Int.toNat_of_nonneg h3, Int.toNat_of_nonneg h5] at g3
  exact of_decide_eq_true g3
theorem zand_b : ∀ s : Int, 0 ≤ s → s < 32 → ∀ q : Int, 0 ≤ q → q < 10 → 0 ≤ zand s (zbit q) ∧ zand s (zbit q) < 32 := by
  have key : ((List.range 32).all fun i => (List.range 10).all fun k => decide (0 ≤ zand (i : Int) (zbit (k : Int)) ∧ zand (i : Int) (zbit (k : Int)) < 32)) = true := by decide +kernel
  intro s h1 h2 q h5 h6
  have g1 := List.all_eq_true.mp key s.toNat (List.mem_range.mpr (by omega))
  have g3 := List.all_eq_true.mp g1 q.toNat (List.mem_range.mpr (by omega))
  rw [Int.toNat_of_nonneg h1, Int.toNat_of_nonneg h5] at g3
  exact of_decide_eq_true g3
theorem zand_0 : ∀ q : Int, 0 ≤ q → q < 10 → zand 0 (zbit q) = 0 := by
  have key : ((List.range 10).all fun k => decide (zand 0 (zbit (k : Int)) = 0)) = true := by decide +kernel
  intro q h5 h6
  have g3 := List.all_eq_true.mp key q.toNat (List.mem_range.mpr (by omega))
  rw [Int.toNat_of_nonneg h5] at g3
  exact of_decide_eq_true g3
/-- the other side's i-th -/
def sOth (p i : Int) : Int := if p < 5 then 5 + i else i
def sToN (v : zVw) (p : Int) : Nat → Int
  | 0 => 0
  | i + 1 => if ¬ zand (sSl v (sOth p (i : Int))) (zbit p) = 0 then zor (sToN v p i) (zbit (sOth p (i : Int))) else sToN v p i
theorem sToN_s (v : zVw) (p : Int) {j : Int} (h : 0 ≤ j) : sToN v p (j + 1).toNat = if ¬ zand (sSl v (sOth p j)) (zbit p) = 0 then zor (sToN v p j.toNat) (zbit (sOth p j)) else sToN v p j.toNat := by
  rw [show (j + 1).toNat = j.toNat + 1 by omega, sToN, Int.toNat_of_nonneg h]
theorem sToN_b (v : zVw) (p : Int) : ∀ i : Nat, i ≤ 5 → 0 ≤ sToN v p i ∧ sToN v p i < 32
  | 0, _ => by show (0 : Int) ≤ 0 ∧ (0 : Int) < 32; omega
  | i + 1, hi => by
    have h := sToN_b v p i (by omega)
    rw [sToN]
    have hq : 0 ≤ sOth p (i : Int) ∧ sOth p (i : Int) < 10 := by unfold sOth; split <;> omega
    by_cases q : ¬ zand (sSl v (sOth p (i : Int))) (zbit p) = 0
    · rw [if_pos q]; exact zor_bit _ h.1 h.2 _ hq.1 hq.2
    · rw [if_neg q]; exact h
/-- whom a left one meets, in all rounds -/
def sMmN (v : zVw) (p : Int) : Nat → Int
  | 0 => 0
  | k + 1 => if sPar v p (k : Int) = -9 then sMmN v p k else zor (sMmN v p k) (zbit (sPar v p (k : Int)))
theorem sMmN_s (v : zVw) (p : Int) {j : Int} (h : 0 ≤ j) : sMmN v p (j + 1).toNat = if sPar v p j = -9 then sMmN v p j.toNat else zor (sMmN v p j.toNat) (zbit (sPar v p j)) := by
  rw [show (j + 1).toNat = j.toNat + 1 by omega, sMmN, Int.toNat_of_nonneg h]
theorem sMmN_b {v : zVw} (ho : vOK v) (p : Int) : ∀ k, 0 ≤ sMmN v p k ∧ sMmN v p k < 32
  | 0 => by show (0 : Int) ≤ 0 ∧ (0 : Int) < 32; omega
  | k + 1 => by
    have h := sMmN_b ho p k
    rw [sMmN]
    by_cases q : sPar v p (k : Int) = -9
    · rw [if_pos q]; exact h
    · rw [if_neg q]
      have h1 := sPar_U ho (p := p) (k := (k : Int))
      exact zor_bit _ h.1 h.2 _ (by omega) (by omega)
def sAll (v : zVw) : Prop := ∀ l, 0 ≤ l → l < vL v → sMmN v l (vN v).toNat = zshl 1 (vR v) - 1
theorem zshl_b : ∀ r : Int, 0 ≤ r → r ≤ 5 → 1 ≤ zshl 1 r ∧ zshl 1 r ≤ 32 := by
  intro r h0 h1
  rcases (by omega : r = 0 ∨ r = 1 ∨ r = 2 ∨ r = 3 ∨ r = 4 ∨ r = 5) with h | h | h | h | h | h <;> rw [h] <;> decide
theorem zor_0 {s : Int} (h : zR s) : zor s 0 = s := by
  unfold zor
  rw [iI_0, Int32.or_zero, iI_toInt h]
theorem zs_o (μ : zM) {i a : Nat} {j x : Int} (v : Int) (h : ¬ (a = i ∧ x = j)) : zs μ i j v a x = μ a x := by
  by_cases e : a = i
  · subst e; exact zs_ne2 _ _ _ (fun q => h ⟨rfl, q⟩)
  · rw [zs_ne _ _ _ e]
theorem zs_upto {m : zM} {c : Nat} {j val : Int} {f : Int → Int} (h : ∀ k, 0 ≤ k → k < j → m c k = f k) (hv : val = f j) : ∀ k, 0 ≤ k → k < j + 1 → zs m c j val c k = f k := fun k k0 k1 => by
  rw [zs_at]
  by_cases q : k = j
  · rw [if_pos q, q]; exact hv
  · rw [if_neg q]; exact h k k0 (by omega)
theorem sPar_no {v : zVw} {p k : Int} (h : ¬ vTh v p) : sPar v p k = -9 := by
  unfold sPar
  rw [if_neg (fun q => h q.2)]
def zHi (μ m : zM) (v : zVw) (i j : Int) : Prop := zHd μ m v i (sSh v i.toNat + sShN v i j.toNat) ∧ (∀ k, 0 ≤ k → k < 5 → m (48 + i.toNat) k = sPar v i k) ∧ (∀ k, 0 ≤ k → k < j → m (58 + i.toNat) k = sFl v i k) ∧ m 21 i = sSlN v i j.toNat
theorem zHi_alone {μ m m1 : zM} {v : zVw} {i j : Int} (h : zHi μ m v i j) (hi : 0 ≤ i ∧ i < 10) (hj : 0 ≤ j ∧ j < 5) (c : sPar v i j = -9) (e : m1 = zs m (58 + i.toNat) j 999) : zHi μ m1 v i (j + 1) := by
  obtain ⟨h1, h2, h3, h4⟩ := h
  refine ⟨?_, fun k k0 k1 => ?_, ?_, ?_⟩
  · rw [sShN_s v i hj.1, if_neg (fun q => q.1 c), Int.add_zero, e]
    exact zHd_row2 h1 hi _ _
  · rw [e, zs_o _ _ (by omega)]; exact h2 k k0 k1
  · rw [e]
    exact zs_upto h3 (by unfold sFl; rw [if_pos c])
  · rw [e, zs_o _ _ (by omega), h4, sSlN_s v i hj.1, if_neg (fun q => q.1 c)]
theorem zHi_felt {μ m m1 m2 : zM} {v : zVw} {i j : Int} (h : zHi μ m v i j) (hi : 0 ≤ i ∧ i < 10) (hj : 0 ≤ j ∧ j < 5) (c : ¬ sPar v i j = -9) (e : m1 = zs m (58 + i.toNat) j 999) (f1 : ∀ a x, ¬ (a = 58 + i.toNat ∧ x = j) → ¬ (a = 21 ∧ x = i) → ¬ (a = 18 ∧ x = 3) → m2 a x = m1 a x) (f2 : ∀ a, a < 48 → a ≠ 18 → a ≠ 21 → m2 a = m1 a) (f3 : m2 (58 + i.toNat) j = sFeel v i (sPar v i j) j) (f4 : m2 21 i = (if vB v i ≤ sFeel v i (sPar v i j) j then zor (m1 21 i) (zbit (sPar v i j)) else m1 21 i)) (f5 : m2 18 3 = m1 18 3 + (if ¬ sFeel v i (sPar v i j) j = vA v i (sPar v i j) then 1 else 0)) : zHi μ m2 v i (j + 1) := by
  obtain ⟨h1, h2, h3, h4⟩ := h
  have g1 : zHd μ m1 v i (sSh v i.toNat + sShN v i j.toNat) := by rw [e]; exact zHd_row2 h1 hi _ _
  refine ⟨zHd_feel g1 hi f1 f2 ?_, fun k k0 k1 => ?_, fun k k0 k1 => ?_, ?_⟩
  · rw [f5, g1.2.2.1, sShN_s v i hj.1, Int.add_assoc]
    by_cases q : sFeel v i (sPar v i j) j = vA v i (sPar v i j)
    · rw [if_neg (fun z => z q), if_neg (fun z => z.2 q)]
    · rw [if_pos q, if_pos ⟨c, q⟩]
  · rw [f1 _ k (by omega) (by omega) (by omega), e, zs_o _ _ (by omega)]; exact h2 k k0 k1
  · by_cases q : k = j
    · subst q
      rw [f3]; unfold sFl; rw [if_neg c]
    · rw [f1 _ k (by omega) (by omega) (by omega), e, zs_o _ _ (by omega)]; exact h3 k k0 (by omega)
  · have e21 : m1 21 i = sSlN v i j.toNat := by rw [e, zs_o _ _ (by omega)]; exact h4
    rw [f4, e21, sSlN_s v i hj.1]
    by_cases q : vB v i ≤ sFeel v i (sPar v i j) j
    · rw [if_pos q, if_pos ⟨c, q⟩]
    · rw [if_neg q, if_neg (fun z => q z.2)]
theorem zHi_next {μ m : zM} {v : zVw} {i j : Int} (h : zHi μ m v i j) (hi : 0 ≤ i ∧ i < 10) (hj : 5 ≤ j ∧ j ≤ 5) : zHd μ m v (i + 1) (sSh v (i + 1).toNat) := by
  obtain ⟨h1, h2, h3, h4⟩ := h
  have e5 : j.toNat = 5 := by omega
  rw [e5] at h1 h4
  exact zHd_next h1 hi hj.1 h2 h3 h4 (by rw [sSh_s v hi.1])
theorem zHd_end {μ m : zM} {v : zVw} {i : Int} (h : zHd μ m v i (sSh v i.toNat)) (hi : 10 ≤ i ∧ i ≤ 10) : zH m v ∧ ∀ a, a < 48 → a ≠ 18 → a ≠ 21 → m a = μ a := by
  obtain ⟨h1, h2, h3, h4, h5⟩ := h
  have e : i.toNat = 10 := by omega
  rw [e] at h3
  exact ⟨⟨h2, h3, fun p p0 p1 => h4 p p0 (by omega), fun p k p0 p1 => h5 p k p0 (by omega)⟩, h1⟩
