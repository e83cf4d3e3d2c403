/-! how the reference holds what is told; sets of numbers -/
def zQ (μ : zM) (v : zVw) : Prop := μ 31 0 = vL v ∧ μ 31 1 = vR v ∧ μ 31 2 = vS v ∧ μ 31 3 = vH v ∧ μ 31 4 = vW v ∧ (∀ p, 0 ≤ p → p < 10 → μ 32 p = vK v p ∧ μ 33 p = vB v p) ∧ (∀ a b, zU a b → μ 34 (5 * a + b % 5) = vA v a b)
theorem zQ_fr {μ m : zM} {v : zVw} (h : zQ μ v) (h0 : ∀ x, 0 ≤ x → x ≤ 4 → m 31 x = μ 31 x) (h1 : m 32 = μ 32) (h2 : m 33 = μ 33) (h3 : m 34 = μ 34) : zQ m v := by
  unfold zQ
  rw [h0 0 (by omega) (by omega), h0 1 (by omega) (by omega), h0 2 (by omega) (by omega), h0 3 (by omega) (by omega), h0 4 (by omega) (by omega), h1, h2, h3]
  exact h
theorem zQ_like {μ : zM} {v : zVw} (h : zQ μ v) {a b z : Int} (hab : zU a b) : zQ (zs μ 34 (5 * a + b % 5) z) (vLike v a b z) := by
  obtain ⟨h1, h2, h3, h4, h5, h6, h7⟩ := h
  refine ⟨?_, ?_, ?_, ?_, ?_, fun p p0 p1 => ?_, fun x y hxy => ?_⟩
  · rw [zs_ne _ _ _ (by omega)]; exact h1
  · rw [zs_ne _ _ _ (by omega)]; exact h2
  · rw [zs_ne _ _ _ (by omega)]; exact h3
  · rw [zs_ne _ _ _ (by omega)]; exact h4
  · rw [zs_ne _ _ _ (by omega)]; exact h5
  · rw [zs_ne _ _ _ (by omega), zs_ne _ _ _ (by omega)]; exact h6 p p0 p1
  · rw [zs_at]
    show _ = if x = a ∧ y = b then z else vA v x y
    by_cases e : x = a ∧ y = b
    · rw [if_pos e, if_pos (by omega)]
    · rw [if_neg e, if_neg (by omega)]; exact h7 x y hxy
theorem zQ_law {μ : zM} {v : zVw} (h : zQ μ v) {w : Int} : zQ (zs μ 31 4 w) (vLaw v w) := by
  obtain ⟨h1, h2, h3, h4, h5, h6, h7⟩ := h
  refine ⟨?_, ?_, ?_, ?_, zs_self _ _ _ _, fun p p0 p1 => ?_, fun x y hxy => ?_⟩
  · rw [zs_ne2 _ _ _ (by omega)]; exact h1
  · rw [zs_ne2 _ _ _ (by omega)]; exact h2
  · rw [zs_ne2 _ _ _ (by omega)]; exact h3
  · rw [zs_ne2 _ _ _ (by omega)]; exact h4
  · rw [zs_ne _ _ _ (by omega), zs_ne _ _ _ (by omega)]; exact h6 p p0 p1
  · rw [zs_ne _ _ _ (by omega)]; exact h7 x y hxy
theorem zQ_ord {μ : zM} {v : zVw} (h : zQ μ v) {s k : Int} : zQ (zs (zs μ 31 2 s) 31 3 k) (vOrd v s k) := by
  obtain ⟨h1, h2, h3, h4, h5, h6, h7⟩ := h
  refine ⟨?_, ?_, ?_, zs_self _ _ _ _, ?_, fun p p0 p1 => ?_, fun x y hxy => ?_⟩
  · rw [zs_ne2 _ _ _ (by omega), zs_ne2 _ _ _ (by omega)]; exact h1
  · rw [zs_ne2 _ _ _ (by omega), zs_ne2 _ _ _ (by omega)]; exact h2
  · rw [zs_ne2 _ _ _ (by omega), zs_self]; rfl
  · rw [zs_ne2 _ _ _ (by omega), zs_ne2 _ _ _ (by omega)]; exact h5
  · rw [zs_ne _ _ _ (by omega), zs_ne _ _ _ (by omega), zs_ne _ _ _ (by omega), zs_ne _ _ _ (by omega)]; exact h6 p p0 p1
  · rw [zs_ne _ _ _ (by omega), zs_ne _ _ _ (by omega)]; exact h7 x y hxy
def zQi (μ : zM) (v : zVw) : Prop := μ 31 27 = vL v ∧ μ 31 28 = vR v ∧ μ 31 29 = vS v ∧ μ 31 30 = vH v ∧ μ 31 31 = vW v ∧ (∀ p, 0 ≤ p → p < 10 → μ 45 p = vK v p ∧ μ 46 p = vB v p) ∧ (∀ a b, zU a b → μ 47 (5 * a + b % 5) = vA v a b)
theorem zQi_fr {μ m : zM} {v : zVw} (h : zQi μ v) (h0 : ∀ x, 27 ≤ x → x ≤ 31 → m 31 x = μ 31 x) (h1 : m 45 = μ 45) (h2 : m 46 = μ 46) (h3 : m 47 = μ 47) : zQi m v := by
  unfold zQi
  rw [h0 27 (by omega) (by omega), h0 28 (by omega) (by omega), h0 29 (by omega) (by omega), h0 30 (by omega) (by omega), h0 31 (by omega) (by omega), h1, h2, h3]
  exact h
/-- the letters -/
def zQl (μ : zM) (tx : Int → Int) (n : Int) : Prop := μ 31 5 = n ∧ (0 ≤ n ∧ n ≤ 96) ∧ ∀ i, 0 ≤ i → i < n → μ 35 i = tx i ∧ (0 ≤ tx i ∧ tx i ≤ 255)
theorem zQl_fr {μ m : zM} {tx : Int → Int} {n : Int} (h : zQl μ tx n) (h1 : m 31 5 = μ 31 5) (h2 : m 35 = μ 35) : zQl m tx n := by
  unfold zQl
  rw [h1, h2]
  exact h
def zRf (μ : zM) (s : zS) : Prop := zQ μ (gV s) ∧ μ 31 26 = gK s ∧ zQi μ (gI s) ∧ zQl μ (gT s) (gN s) ∧ μ 31 6 = gM s ∧ (∀ i, 0 ≤ i → i < gM s → μ 36 i = gW s i) ∧ (∀ i, 1 ≤ i → i ≤ 6 → μ 37 i = gF s i)
/-- what may change freely: fields 13 to 24, what lies in 38 to 44 -/
theorem zRf_fr {μ m : zM} {s : zS} (h : zRf μ s) (hf : ∀ a x, ((a = 31 ∧ (x ≤ 6 ∨ 26 ≤ x)) ∨ (32 ≤ a ∧ a ≤ 37) ∨ (45 ≤ a ∧ a ≤ 47)) → m a x = μ a x) : zRf m s := by
  obtain ⟨h1, h2, h3, h4, h5, h6, h7⟩ := h
  have e : ∀ a, ((32 ≤ a ∧ a ≤ 37) ∨ (45 ≤ a ∧ a ≤ 47)) → m a = μ a := fun a ha => funext fun x => hf a x (by omega)
  refine ⟨zQ_fr h1 (fun x x0 x1 => hf 31 x (by omega)) (e 32 (by omega)) (e 33 (by omega)) (e 34 (by omega)), ?_, zQi_fr h3 (fun x x0 x1 => hf 31 x (by omega)) (e 45 (by omega)) (e 46 (by omega)) (e 47 (by omega)), zQl_fr h4 (hf 31 5 (by omega)) (e 35 (by omega)), ?_, ?_, ?_⟩
  · rw [hf 31 26 (by omega)]; exact h2
  · rw [hf 31 6 (by omega)]; exact h5
  · rw [e 36 (by omega)]; exact h6
  · rw [e 37 (by omega)]; exact h7
theorem zRf_V {μ m : zM} {s : zS} {v : zVw} (h : zRf μ s) (hT : zQ m v) (hf : ∀ a x, ((a = 31 ∧ (x = 5 ∨ x = 6 ∨ 26 ≤ x)) ∨ (35 ≤ a ∧ a ≤ 37) ∨ (45 ≤ a ∧ a ≤ 47)) → m a x = μ a x) : zRf m (pV s v) := by
  obtain ⟨h1, h2, h3, h4, h5, h6, h7⟩ := h
  have e : ∀ a, ((35 ≤ a ∧ a ≤ 37) ∨ (45 ≤ a ∧ a ≤ 47)) → m a = μ a := fun a ha => funext fun x => hf a x (by omega)
  refine ⟨hT, ?_, zQi_fr h3 (fun x x0 x1 => hf 31 x (by omega)) (e 45 (by omega)) (e 46 (by omega)) (e 47 (by omega)), zQl_fr h4 (hf 31 5 (by omega)) (e 35 (by omega)), ?_, ?_, ?_⟩
  · rw [hf 31 26 (by omega)]; exact h2
  · rw [hf 31 6 (by omega)]; exact h5
  · rw [e 36 (by omega)]; exact h6
  · rw [e 37 (by omega)]; exact h7
theorem zRf_I {μ m : zM} {s : zS} {w : zVw} (h : zRf μ s) (hT : zQi m w) (e1 : m 31 26 = 1) (hf : ∀ a x, ((a = 31 ∧ x ≤ 6) ∨ (32 ≤ a ∧ a ≤ 37)) → m a x = μ a x) : zRf m (pI s w) := by
  obtain ⟨h1, h2, h3, h4, h5, h6, h7⟩ := h
  have e : ∀ a, (32 ≤ a ∧ a ≤ 37) → m a = μ a := fun a ha => funext fun x => hf a x (by omega)
  refine ⟨zQ_fr h1 (fun x x0 x1 => hf 31 x (by omega)) (e 32 (by omega)) (e 33 (by omega)) (e 34 (by omega)), e1, hT, zQl_fr h4 (hf 31 5 (by omega)) (e 35 (by omega)), ?_, ?_, ?_⟩
  · rw [hf 31 6 (by omega)]; exact h5
  · rw [e 36 (by omega)]; exact h6
  · rw [e 37 (by omega)]; exact h7
theorem zRf_T {μ : zM} {s : zS} (h : zRf μ s) {c : Int} (hc : 0 ≤ c ∧ c ≤ 255) (hn : gN s < 96) : zRf (zs (zs μ 35 (gN s) c) 31 5 (gN s + 1)) (pT s c) := by
  obtain ⟨h1, h2, h3, ⟨x1, x2, x3⟩, h5, h6, h7⟩ := h
  refine ⟨zQ_fr h1 (fun x x0 x4 => ?_) ?_ ?_ ?_, ?_, zQi_fr h3 (fun x x0 x4 => ?_) ?_ ?_ ?_, ⟨zs_self _ _ _ _, ?_, fun i i0 i1 => ?_⟩, ?_, ?_, ?_⟩
  · rw [zs_ne2 _ _ _ (by omega), zs_ne _ _ _ (by omega)]
  · rw [zs_ne _ _ _ (by omega), zs_ne _ _ _ (by omega)]
  · rw [zs_ne _ _ _ (by omega), zs_ne _ _ _ (by omega)]
  · rw [zs_ne _ _ _ (by omega), zs_ne _ _ _ (by omega)]
  · rw [zs_ne2 _ _ _ (by omega), zs_ne _ _ _ (by omega)]; exact h2
  · rw [zs_ne2 _ _ _ (by omega), zs_ne _ _ _ (by omega)]
  · rw [zs_ne _ _ _ (by omega), zs_ne _ _ _ (by omega)]
  · rw [zs_ne _ _ _ (by omega), zs_ne _ _ _ (by omega)]
  · rw [zs_ne _ _ _ (by omega), zs_ne _ _ _ (by omega)]
  · show 0 ≤ gN s + 1 ∧ gN s + 1 ≤ 96
    omega
  · rw [zs_ne _ _ _ (by omega), zs_at]
    show (if i = gN s then c else μ 35 i) = (if i = gN s then c else gT s i) ∧ (0 ≤ (if i = gN s then c else gT s i) ∧ (if i = gN s then c else gT s i) ≤ 255)
    by_cases e : i = gN s
    · rw [if_pos e, if_pos e]; exact ⟨rfl, hc⟩
    · rw [if_neg e, if_neg e]
      have i2 : i < gN s + 1 := i1
      exact x3 i i0 (by omega)
  · rw [zs_ne2 _ _ _ (by omega), zs_ne _ _ _ (by omega)]; exact h5
  · rw [zs_ne _ _ _ (by omega), zs_ne _ _ _ (by omega)]; exact h6
  · rw [zs_ne _ _ _ (by omega), zs_ne _ _ _ (by omega)]; exact h7
theorem zRf_N {μ : zM} {s : zS} (h : zRf μ s) : zRf (zs μ 31 5 0) (pN s) := by
  obtain ⟨h1, h2, h3, ⟨x1, x2, x3⟩, h5, h6, h7⟩ := h
  refine ⟨zQ_fr h1 (fun x x0 x4 => ?_) ?_ ?_ ?_, ?_, zQi_fr h3 (fun x x0 x4 => ?_) ?_ ?_ ?_, ⟨zs_self _ _ _ _, ?_, fun i i0 i1 => ?_⟩, ?_, ?_, ?_⟩
  · rw [zs_ne2 _ _ _ (by omega)]
  · rw [zs_ne _ _ _ (by omega)]
  · rw [zs_ne _ _ _ (by omega)]
  · rw [zs_ne _ _ _ (by omega)]
  · rw [zs_ne2 _ _ _ (by omega)]; exact h2
  · rw [zs_ne2 _ _ _ (by omega)]
  · rw [zs_ne _ _ _ (by omega)]
  · rw [zs_ne _ _ _ (by omega)]
  · rw [zs_ne _ _ _ (by omega)]
  · show (0 : Int) ≤ 0 ∧ (0 : Int) ≤ 96
    omega
  · have i2 : i < 0 := i1
    omega
  · rw [zs_ne2 _ _ _ (by omega)]; exact h5
  · rw [zs_ne _ _ _ (by omega)]; exact h6
  · rw [zs_ne _ _ _ (by omega)]; exact h7
theorem zRf_R {μ : zM} {s : zS} (h : zRf μ s) (z : Int) : zRf (zs (zs μ 36 (gM s) z) 31 6 (gM s + 1)) (pR s z) := by
  obtain ⟨h1, h2, h3, h4, h5, h6, h7⟩ := h
  refine ⟨zQ_fr h1 (fun x x0 x4 => ?_) ?_ ?_ ?_, ?_, zQi_fr h3 (fun x x0 x4 => ?_) ?_ ?_ ?_, zQl_fr h4 ?_ ?_, zs_self _ _ _ _, fun i i0 i1 => ?_, ?_⟩
  · rw [zs_ne2 _ _ _ (by omega), zs_ne _ _ _ (by omega)]
  · rw [zs_ne _ _ _ (by omega), zs_ne _ _ _ (by omega)]
  · rw [zs_ne _ _ _ (by omega), zs_ne _ _ _ (by omega)]
  · rw [zs_ne _ _ _ (by omega), zs_ne _ _ _ (by omega)]
  · rw [zs_ne2 _ _ _ (by omega), zs_ne _ _ _ (by omega)]; exact h2
  · rw [zs_ne2 _ _ _ (by omega), zs_ne _ _ _ (by omega)]
  · rw [zs_ne _ _ _ (by omega), zs_ne _ _ _ (by omega)]
  · rw [zs_ne _ _ _ (by omega), zs_ne _ _ _ (by omega)]
  · rw [zs_ne _ _ _ (by omega), zs_ne _ _ _ (by omega)]
  · rw [zs_ne2 _ _ _ (by omega), zs_ne _ _ _ (by omega)]
  · rw [zs_ne _ _ _ (by omega), zs_ne _ _ _ (by omega)]
  · rw [zs_ne _ _ _ (by omega), zs_at]
    show (if i = gM s then z else μ 36 i) = (if i = gM s then z else gW s i)
    by_cases e : i = gM s
    · rw [if_pos e, if_pos e]
    · rw [if_neg e, if_neg e]
      have i2 : i < gM s + 1 := i1
      exact h6 i i0 (by omega)
  · rw [zs_ne _ _ _ (by omega), zs_ne _ _ _ (by omega)]; exact h7
theorem zRf_M {μ : zM} {s : zS} (h : zRf μ s) : zRf (zs μ 31 6 0) (pM s) := by
  obtain ⟨h1, h2, h3, h4, h5, h6, h7⟩ := h
  refine ⟨zQ_fr h1 (fun x x0 x4 => ?_) ?_ ?_ ?_, ?_, zQi_fr h3 (fun x x0 x4 => ?_) ?_ ?_ ?_, zQl_fr h4 ?_ ?_, zs_self _ _ _ _, fun i i0 i1 => ?_, ?_⟩
  · rw [zs_ne2 _ _ _ (by omega)]
  · rw [zs_ne _ _ _ (by omega)]
  · rw [zs_ne _ _ _ (by omega)]
  · rw [zs_ne _ _ _ (by omega)]
  · rw [zs_ne2 _ _ _ (by omega)]; exact h2
  · rw [zs_ne2 _ _ _ (by omega)]
  · rw [zs_ne _ _ _ (by omega)]
  · rw [zs_ne _ _ _ (by omega)]
  · rw [zs_ne _ _ _ (by omega)]
  · rw [zs_ne2 _ _ _ (by omega)]
  · rw [zs_ne _ _ _ (by omega)]
  · have i2 : i < 0 := i1
    omega
  · rw [zs_ne _ _ _ (by omega)]; exact h7
theorem zRf_F {μ : zM} {s : zS} (h : zRf μ s) {k : Int} (hk : 1 ≤ k ∧ k ≤ 6) : zRf (zs μ 37 k (zw (μ 37 k + 1))) (pF s k) := by
  obtain ⟨h1, h2, h3, h4, h5, h6, h7⟩ := h
  refine ⟨zQ_fr h1 (fun x x0 x4 => ?_) ?_ ?_ ?_, ?_, zQi_fr h3 (fun x x0 x4 => ?_) ?_ ?_ ?_, zQl_fr h4 ?_ ?_, ?_, ?_, fun i i0 i1 => ?_⟩
  · rw [zs_ne _ _ _ (by omega)]
  · rw [zs_ne _ _ _ (by omega)]
  · rw [zs_ne _ _ _ (by omega)]
  · rw [zs_ne _ _ _ (by omega)]
  · rw [zs_ne _ _ _ (by omega)]; exact h2
  · rw [zs_ne _ _ _ (by omega)]
  · rw [zs_ne _ _ _ (by omega)]
  · rw [zs_ne _ _ _ (by omega)]
  · rw [zs_ne _ _ _ (by omega)]
  · rw [zs_ne _ _ _ (by omega)]
  · rw [zs_ne _ _ _ (by omega)]
  · rw [zs_ne _ _ _ (by omega)]; exact h5
  · rw [zs_ne _ _ _ (by omega)]; exact h6
  · rw [zs_at]
    show (if i = k then zw (μ 37 k + 1) else μ 37 i) = (if i = k then zw (gF s k + 1) else gF s i)
    rw [h7 k hk.1 hk.2, h7 i i0 i1]
/-! sets -/
theorem zmod_inv {n l q x : Int} (hn : 1 ≤ n ∧ n ≤ 5) (hl : 0 ≤ l ∧ l < n) (hq : 0 ≤ q ∧ q < n) : (l + x) % n = q ↔ l = (q - x) % n := by
  rcases (by omega : n = 1 ∨ n = 2 ∨ n = 3 ∨ n = 4 ∨ n = 5) with e | e | e | e | e <;> subst e <;> omega
theorem zbit_o (p j : Int) : zbit (sOth p j) = zbit j := by
  unfold zbit sOth
  split
  · rw [show (5 + j) % 5 = j % 5 by omega]
  · rfl
theorem zbit_5 (j : Int) : zbit (5 + j) = zbit j := by
  unfold zbit
  rw [show (5 + j) % 5 = j % 5 by omega]
theorem zbit_m (p : Int) : zbit (p % 5) = zbit p := by
  unfold zbit
  rw [show p % 5 % 5 = p % 5 by omega]
theorem zshl_bit {j : Int} (h : 0 ≤ j ∧ j < 5) : zshl 1 j = zbit j := by
  unfold zbit
  rw [show j % 5 = j by omega]
theorem zset_ext : ∀ s : Int, 0 ≤ s → s < 32 → ∀ t : Int, 0 ≤ t → t < 32 → (∀ j : Int, 0 ≤ j → j < 5 → ((¬ zand s (zbit j) = 0) ↔ (¬ zand t (zbit j) = 0))) → s = t := by
  have key : ((List.range 32).all fun i => (List.range 32).all fun k => (i == k) || ((List.range 5).any fun j => (decide (zand (i : Int) (zbit (j : Int)) = 0)) != (decide (zand (k : Int) (zbit (j : Int)) = 0)))) = true := by decide +kernel
  intro s h1 h2 t h3 h4 h
  have h5 := List.all_eq_true.mp key s.toNat (List.mem_range.mpr (by omega))
  have h6 := List.all_eq_true.mp h5 t.toNat (List.mem_range.mpr (by omega))
  rw [Bool.or_eq_true] at h6
  rcases h6 with h6 | h6
  · have := eq_of_beq h6
    omega
  · obtain ⟨j, hj, h7⟩ := List.any_eq_true.mp h6
    have hj' := List.mem_range.mp hj
    rw [Int.toNat_of_nonneg h1, Int.toNat_of_nonneg h3] at h7
    have h8 := h (j : Int) (by omega) (by omega)
    exfalso
    by_cases q : zand s (zbit (j : Int)) = 0
    · have q2 : zand t (zbit (j : Int)) = 0 := Decidable.byContradiction fun z => (h8.2 z) q
      rw [decide_eq_true q, decide_eq_true q2] at h7
      cases h7
    · have q2 : ¬ zand t (zbit (j : Int)) = 0 := h8.1 q
      rw [decide_eq_false q, decide_eq_false q2] at h7
      cases h7
def zBld (c : Int → Bool) : Nat → Int
  | 0 => 0
  | n + 1 => zor (zBld c n) (if c (n : Int) = true then zshl 1 (n : Int) else 0)
theorem zBld_s (c : Int → Bool) {n : Int} (h : 0 ≤ n) : zBld c (n + 1).toNat = zor (zBld c n.toNat) (if c n = true then zshl 1 n else 0) := by
  rw [show (n + 1).toNat = n.toNat + 1 by omega, zBld, Int.toNat_of_nonneg h]
theorem zBld_b (c : Int → Bool) : ∀ n : Nat, n ≤ 5 → 0 ≤ zBld c n ∧ zBld c n < 32
  | 0, _ => by show (0 : Int) ≤ 0 ∧ (0 : Int) < 32; omega
  | n + 1, h => by
    have ih := zBld_b c n (by omega)
    rw [zBld]
    split
    · rw [zshl_bit (by omega)]
      exact zor_bit _ ih.1 ih.2 _ (by omega) (by omega)
    · rw [zor_0 (by omega)]
      exact ih
theorem zBld_has (c : Int → Bool) : ∀ n : Nat, n ≤ 5 → ∀ j : Int, 0 ≤ j → j < 5 → ((¬ zand (zBld c n) (zbit j) = 0) ↔ (j < (n : Int) ∧ c j = true))
  | 0, _, j, j0, j1 => by
    show (¬ zand 0 (zbit j) = 0) ↔ _
    rw [zand_0 j j0 (by omega)]
    exact ⟨fun h => absurd rfl h, fun h => by omega⟩
  | n + 1, h, j, j0, j1 => by
    have hb := zBld_b c n (by omega)
    have ih := zBld_has c n (by omega) j j0 j1
    rw [zBld]
    by_cases q : c (n : Int) = true
    · rw [if_pos q, zshl_bit (by omega), zor_has _ hb.1 hb.2 _ (by omega) (by omega) j j0 (by omega), ih]
      constructor
      · rintro (z | z)
        · exact ⟨by omega, z.2⟩
        · have : j = (n : Int) := by omega
          rw [this]
          exact ⟨by omega, q⟩
      · rintro ⟨z1, z2⟩
        by_cases e : j = (n : Int)
        · right; rw [e]
        · left; exact ⟨by omega, z2⟩
    · rw [if_neg q, zor_0 (by omega), ih]
      constructor
      · rintro ⟨z1, z2⟩
        exact ⟨by omega, z2⟩
      · rintro ⟨z1, z2⟩
        refine ⟨?_, z2⟩
        by_cases e : j = (n : Int)
        · rw [e] at z2; exact absurd z2 q
        · omega
/-- what a slip says of a place of the other side -/
theorem sSlN_has {v : zVw} (ho : vOK v) (p : Int) {j : Int} (hj : 0 ≤ j ∧ j < 10) : ∀ n : Nat, (¬ zand (sSlN v p n) (zbit j) = 0) ↔ ∃ k : Int, 0 ≤ k ∧ k < (n : Int) ∧ sSay v p k ∧ sPar v p k % 5 = j % 5
  | 0 => by
    show (¬ zand 0 (zbit j) = 0) ↔ _
    rw [zand_0 j hj.1 hj.2]
    exact ⟨fun h => absurd rfl h, fun ⟨k, h1, h2, _⟩ => by omega⟩
  | n + 1 => by
    have ih := sSlN_has ho p hj n
    have hb := sSlN_b ho p n
    rw [sSlN]
    by_cases q : sSay v p (n : Int)
    · have hU := sPar_U ho (p := p) (k := (n : Int))
      have hU2 := hU.resolve_left q.1
      rw [if_pos q, zor_has _ hb.1 hb.2 _ (by omega) (by omega) j hj.1 hj.2, ih]
      constructor
      · rintro (⟨k, z1, z2, z3⟩ | z)
        · exact ⟨k, z1, by omega, z3⟩
        · exact ⟨n, by omega, by omega, q, z⟩
      · rintro ⟨k, z1, z2, z3⟩
        by_cases e : k = (n : Int)
        · right; rw [← e]; exact z3.2
        · left; exact ⟨k, z1, by omega, z3⟩
    · rw [if_neg q, ih]
      constructor
      · rintro ⟨k, z1, z2, z3⟩
        exact ⟨k, z1, by omega, z3⟩
      · rintro ⟨k, z1, z2, z3⟩
        refine ⟨k, z1, ?_, z3⟩
        by_cases e : k = (n : Int)
        · rw [e] at z3; exact absurd z3.1 q
        · omega
abbrev sYes (v : zVw) (p o k : Int) : Prop := sPar v p k = o ∧ vB v p ≤ sFeel v p o k
theorem sSl_has {v : zVw} (ho : vOK v) {p o : Int} (hpo : zU p o) : (¬ zand (sSl v p) (zbit o) = 0) ↔ ∃ k : Int, 0 ≤ k ∧ k < vN v ∧ sYes v p o k := by
  have h5 := (vN_ok ho).1
  unfold sSl
  rw [sSlN_has ho p (by omega) 5]
  constructor
  · rintro ⟨k, z1, z2, z3, z4⟩
    have hU := (sPar_U ho (p := p) (k := k)).resolve_left z3.1
    have e : sPar v p k = o := by omega
    refine ⟨k, z1, hU.2.1, e, ?_⟩
    rw [← e]
    exact z3.2
  · rintro ⟨k, z1, z2, z3, z4⟩
    exact ⟨k, z1, by omega, ⟨by omega, by rw [z3]; exact z4⟩, by rw [z3]⟩
theorem sSl_no {v : zVw} (ho : vOK v) {p : Int} (h : ¬ vTh v p) : sSl v p = 0 := by
  refine zset_ext _ (sSlN_b ho p 5).1 (sSlN_b ho p 5).2 0 (by omega) (by omega) (fun j j0 j1 => ?_)
  have h1 := sSlN_has ho p (j := j) (by omega) 5
  rw [zand_0 j j0 (by omega)]
  refine ⟨fun z => ?_, fun z => absurd rfl z⟩
  obtain ⟨k, z1, z2, z3, z4⟩ := h1.1 z
  exact absurd (sPar_no h) z3.1
theorem vF_b {v : zVw} (ho : vOK v) (p : Int) : 0 ≤ vF v p ∧ vF v p ≤ 5 := by
  obtain ⟨o1, o2, -⟩ := ho
  unfold vF
  split <;> omega
theorem vF_th {v : zVw} {p j : Int} (hp : 0 ≤ p ∧ p < 10) (hj : 0 ≤ j ∧ j < 5) : vTh v (sOth p j) ↔ j < vF v p := by
  unfold sOth vF
  split <;> omega
theorem sSl_bld {v : zVw} (ho : vOK v) {p : Int} (hp : 0 ≤ p ∧ p < 10) : sSl v p = zBld (fun j => decide (¬ zand (sSl v p) (zbit j) = 0)) (vF v p).toNat := by
  have hF := vF_b ho p
  have hb := zBld_b (fun j => decide (¬ zand (sSl v p) (zbit j) = 0)) (vF v p).toNat (by omega)
  refine zset_ext _ (sSlN_b ho p 5).1 (sSlN_b ho p 5).2 _ hb.1 hb.2 (fun j j0 j1 => ?_)
  rw [zBld_has _ _ (by omega) j j0 j1, decide_eq_true_iff]
  refine ⟨fun z => ⟨?_, z⟩, fun z => z.2⟩
  obtain ⟨k, z1, z2, z3, z4⟩ := (sSlN_has ho p (j := j) (by omega) 5).1 z
  have hU := (sPar_U ho (p := p) (k := k)).resolve_left z3.1
  have : vTh v (sOth p j) := by
    have e : sOth p j = sPar v p k := by unfold sOth; split <;> omega
    rw [e]
    exact hU.2.2.1
  have := (vF_th hp ⟨j0, j1⟩).1 this
  omega
theorem sToN_has {v : zVw} (p : Int) : ∀ n : Nat, n ≤ 5 → ∀ j : Int, 0 ≤ j → j < 5 → ((¬ zand (sToN v p n) (zbit j) = 0) ↔ (j < (n : Int) ∧ ¬ zand (sSl v (sOth p j)) (zbit p) = 0))
  | 0, _, j, j0, j1 => by
    show (¬ zand 0 (zbit j) = 0) ↔ _
    rw [zand_0 j j0 (by omega)]
    exact ⟨fun h => absurd rfl h, fun h => by omega⟩
  | n + 1, h, j, j0, j1 => by
    have hb := sToN_b v p n (by omega)
    have ih := sToN_has (v := v) p n (by omega) j j0 j1
    rw [sToN]
    by_cases q : ¬ zand (sSl v (sOth p (n : Int))) (zbit p) = 0
    · rw [if_pos q, zbit_o, zor_has _ hb.1 hb.2 _ (by omega) (by omega) j j0 (by omega), ih]
      constructor
      · rintro (z | z)
        · exact ⟨by omega, z.2⟩
        · have : j = (n : Int) := by omega
          rw [this]
          exact ⟨by omega, q⟩
      · rintro ⟨z1, z2⟩
        by_cases e : j = (n : Int)
        · right; rw [e]
        · left; exact ⟨by omega, z2⟩
    · rw [if_neg q, ih]
      constructor
      · rintro ⟨z1, z2⟩
        exact ⟨by omega, z2⟩
      · rintro ⟨z1, z2⟩
        refine ⟨?_, z2⟩
        by_cases e : j = (n : Int)
        · rw [e] at z2; exact absurd z2 q
        · omega
theorem sToN_bld {v : zVw} (ho : vOK v) {p : Int} (hp : 0 ≤ p ∧ p < 10) : sToN v p 5 = zBld (fun j => decide (¬ zand (sSl v (sOth p j)) (zbit p) = 0)) (vF v p).toNat := by
  have hF := vF_b ho p
  have hb := zBld_b (fun j => decide (¬ zand (sSl v (sOth p j)) (zbit p) = 0)) (vF v p).toNat (by omega)
  have hb2 := sToN_b v p 5 (by omega)
  refine zset_ext _ hb2.1 hb2.2 _ hb.1 hb.2 (fun j j0 j1 => ?_)
  rw [zBld_has _ _ (by omega) j j0 j1, sToN_has p 5 (by omega) j j0 j1, decide_eq_true_iff]
  refine ⟨fun z => ⟨?_, z.2⟩, fun z => ⟨by omega, z.2⟩⟩
  by_cases q : j < vF v p
  · omega
  · exfalso
    have h1 : ¬ vTh v (sOth p j) := fun y => q ((vF_th hp ⟨j0, j1⟩).1 y)
    have h2 := z.2
    rw [sSl_no ho h1, zand_0 p hp.1 hp.2] at h2
    exact h2 rfl
theorem zhas_t : ∀ s : Int, 0 ≤ s → s < 32 → ∀ j : Int, 0 ≤ j → j < 5 → (zand (zshr s j) 1 = 1 ↔ ¬ zand s (zbit j) = 0) := by
  have key : ((List.range 32).all fun i => (List.range 5).all fun j => decide (zand (zshr (i : Int) (j : Int)) 1 = 1 ↔ ¬ zand (i : Int) (zbit (j : Int)) = 0)) = true := by decide +kernel
  intro s h1 h2 j h3 h4
  have h5 := List.all_eq_true.mp key s.toNat (List.mem_range.mpr (by omega))
  have h6 := List.all_eq_true.mp h5 j.toNat (List.mem_range.mpr (by omega))
  rw [Int.toNat_of_nonneg h1, Int.toNat_of_nonneg h3] at h6
  exact of_decide_eq_true h6
