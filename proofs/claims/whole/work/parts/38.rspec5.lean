/-! the reference: who is held -/
def zWy (m : zM) (h : Int → Int) : Prop := ∀ k, 0 ≤ k → k < 5 → ((m 42 k = -1 ∧ h k = -9) ∨ ((0 ≤ m 42 k ∧ m 42 k < 5) ∧ h k = 5 + m 42 k)) ∧ ((m 43 k = -1 ∧ h (5 + k) = -9) ∨ ((0 ≤ m 43 k ∧ m 43 k < 5) ∧ h (5 + k) = m 43 k))
theorem zWy_fr {m μ : zM} {h : Int → Int} (g : zWy μ h) (h1 : m 42 = μ 42) (h2 : m 43 = μ 43) : zWy m h := by
  unfold zWy
  rw [h1, h2]
  exact g
theorem lk_l {μ : zM} {v : zVw} (h : zQ μ v) {l r : Int} (hl : 0 ≤ l ∧ l < 5) (hr : 0 ≤ r ∧ r < 5) : μ 34 (5 * l + r) = vA v l (5 + r) := by
  rw [lk_o h (by omega) hr.1 hr.2, sOth_l hl.2]
theorem lk_r {μ : zM} {v : zVw} (h : zQ μ v) {l r : Int} (hl : 0 ≤ l ∧ l < 5) (hr : 0 ≤ r ∧ r < 5) : μ 34 (25 + 5 * r + l) = vA v (5 + r) l := by
  have := lk_o h (p := 5 + r) (j := l) (by omega) hl.1 hl.2
  rw [show 5 * (5 + r) + l = 25 + 5 * r + l by omega, sOth_r (by omega)] at this
  exact this
theorem zWy_0 {m : zM} (h : ∀ x, 0 ≤ x → x < 5 → m 42 x = -1 ∧ m 43 x = -1) : zWy m (fun _ => -9) := fun k k0 k1 => ⟨Or.inl ⟨(h k k0 k1).1, rfl⟩, Or.inl ⟨(h k k0 k1).2, rfl⟩⟩
theorem zWy_cong {m : zM} {h g : Int → Int} (w : zWy m h) (e : ∀ x, 0 ≤ x → x < 10 → g x = h x) : zWy m g := fun k k0 k1 => by
  rw [e k k0 (by omega), e (5 + k) (by omega) (by omega)]
  exact w k k0 k1
theorem zWy_give {m m1 m2 : zM} {h : Int → Int} (w : zWy m h) {l r : Int} (hl : 0 ≤ l ∧ l < 5) (hr : 0 ≤ r ∧ r < 5) (e1 : m1 = zs m 42 l r) (e2 : m2 = zs m1 43 r l) : zWy m2 (fun x => if x = 5 + r then l else if x = l then 5 + r else h x) := fun k k0 k1 => by
  have g := w k k0 k1
  constructor
  · show (m2 42 k = -1 ∧ (if k = 5 + r then l else if k = l then 5 + r else h k) = -9) ∨ ((0 ≤ m2 42 k ∧ m2 42 k < 5) ∧ (if k = 5 + r then l else if k = l then 5 + r else h k) = 5 + m2 42 k)
    rw [if_neg (by omega), e2, zs_ne _ _ _ (by omega), e1, zs_at]
    by_cases e : k = l
    · rw [if_pos e, if_pos e]; exact Or.inr ⟨hr, rfl⟩
    · rw [if_neg e, if_neg e]; exact g.1
  · show (m2 43 k = -1 ∧ (if 5 + k = 5 + r then l else if 5 + k = l then 5 + r else h (5 + k)) = -9) ∨ ((0 ≤ m2 43 k ∧ m2 43 k < 5) ∧ (if 5 + k = 5 + r then l else if 5 + k = l then 5 + r else h (5 + k)) = m2 43 k)
    rw [e2, zs_at]
    by_cases e : k = r
    · rw [if_pos e, if_pos (by omega)]; exact Or.inr ⟨hl, rfl⟩
    · rw [if_neg e, if_neg (by omega), if_neg (by omega), e1, zs_ne _ _ _ (by omega)]; exact g.2
theorem zWy_no {m : zM} {h : Int → Int} (w : zWy m h) {l r : Int} (hl : 0 ≤ l ∧ l < 5) (e : m 42 l = r) (hr : 0 ≤ r) (v : zVw) : ¬ sBo v h l r := fun z => by
  have g := ((w l hl.1 hl.2).1.resolve_left (fun y => by omega)).2
  have z1 := z.1
  unfold sWR at z1
  rw [g, e] at z1
  omega
theorem sDa_skip {w : zVw} {X : Int × zVw} {a : Nat} : ∀ n : Nat, (∀ p : Int, (a : Int) ≤ p → p < (a : Int) + (n : Int) → ¬ vTh w p) → sDa w (a + n) X = sDa w a X
  | 0, _ => rfl
  | n + 1, h => by
    rw [show a + (n + 1) = (a + n) + 1 by omega, sDa, if_neg (h _ (by omega) (by omega)), sDa_skip n (fun p p0 p1 => h p p0 (by omega))]
theorem sDa_skip2 {w : zVw} {X : Int × zVw} {a b : Int} (ha : 0 ≤ a) (hab : a ≤ b) (h : ∀ p : Int, a ≤ p → p < b → ¬ vTh w p) : sDa w b.toNat X = sDa w a.toNat X := by
  rw [show b.toNat = a.toNat + (b - a).toNat by omega]
  exact sDa_skip _ (fun p p0 p1 => h p (by omega) (by omega))
/-- the next in the order of all -/
theorem sDa_nth {w : zVw} (ho : vOK w) {X : Int × zVw} {i : Int} (hi : 0 ≤ i ∧ i < vL w + vR w) : sDa w (sNth w (i + 1)).toNat X = sDr (sNth w i) (vF w (sNth w i)).toNat (sDa w (sNth w i).toNat X) := by
  obtain ⟨o1, o2, -⟩ := ho
  have hn : sNth w i = (if i < vL w then i else 5 + i - vL w) := rfl
  have hn1 : sNth w (i + 1) = (if i + 1 < vL w then i + 1 else 5 + (i + 1) - vL w) := rfl
  have hth : vTh w (sNth w i) := by rw [hn]; split <;> omega
  have e : sDa w (sNth w i + 1).toNat X = sDr (sNth w i) (vF w (sNth w i)).toNat (sDa w (sNth w i).toNat X) := by
    rw [sDa_s w (by omega), if_pos hth]
  rw [← e]
  have hle : sNth w i + 1 ≤ sNth w (i + 1) := by rw [hn, hn1]; split <;> split <;> omega
  refine sDa_skip2 (by omega) hle (fun p p0 p1 => ?_)
  rw [hn] at p0
  rw [hn1] at p1
  split at p0 <;> split at p1 <;> omega
theorem sDa_first {w : zVw} (ho : vOK w) {X : Int × zVw} : sDa w (sNth w 0).toNat X = X := by
  obtain ⟨o1, o2, -⟩ := ho
  have hn : sNth w 0 = (if 0 < vL w then 0 else 5 + 0 - vL w) := rfl
  have e : sDa w (0 : Int).toNat X = X := rfl
  rw [← e]
  refine (sDa_skip2 (w := w) (X := sDa w (0 : Int).toNat X) (a := 0) (by omega) ?_ ?_)
  · rw [hn]; split <;> omega
  · intro p p0 p1
    rw [hn] at p1
    split at p1 <;> omega
theorem sDa_last {w : zVw} (ho : vOK w) {X : Int × zVw} : sDa w (sNth w (vL w + vR w)).toNat X = sDa w 10 X := by
  obtain ⟨o1, o2, -⟩ := ho
  have hn : sNth w (vL w + vR w) = 5 + vR w := by
    unfold sNth
    rw [if_neg (by omega)]
    omega
  rw [hn]
  exact (sDa_skip2 (b := 10) (by omega) (by omega) (fun p p0 p1 => by omega)).symm
theorem zDz (z : Int) : zw (z * 1664525 + 1013904223) = sDz z := rfl
theorem pV_id (s : zS) : pV s (gV s) = s := rfl
