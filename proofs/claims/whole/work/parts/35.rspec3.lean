/-! who asks, by ranks: the class's state and the reference's -/
def zAll (v : zVw) (k : Int) : Int := zshl 1 (vC v (1 - k)) - 1
theorem zAll_b {v : zVw} (ho : vOK v) (k : Int) : 0 ≤ zAll v k ∧ zAll v k < 32 := by
  have h := vC_b ho (1 - k)
  have := zshl_b (vC v (1 - k)) h.1 h.2
  unfold zAll
  omega
def zRk (μ : zM) (v : zVw) (k fr : Int) (σ : zAS) : Prop :=
  (∀ a, 0 ≤ a → a < 5 → (0 ≤ μ 38 a ∧ μ 38 a < 32) ∧ (a < vC v k → σ.2 (fr + a) = zand (zAll v k) (zxor (μ 38 a) (-1)) ∧ μ 38 a = zand (zAll v k) (zxor (σ.2 (fr + a)) (-1))) ∧ (vC v k ≤ a → σ.2 (fr + a) = 0))
  ∧ (∀ o, 0 ≤ o → o < 5 → σ.2 (5 - fr + o) = 0)
  ∧ (∀ o, 0 ≤ o → o < 5 → (μ 39 o = -1 ∧ σ.1 (5 - fr + o) = -9) ∨ ((0 ≤ μ 39 o ∧ μ 39 o < 5) ∧ σ.1 (5 - fr + o) = fr + μ 39 o ∧ σ.1 (fr + μ 39 o) = 5 - fr + o))
  ∧ (∀ a, 0 ≤ a → a < 5 → (∀ o, 0 ≤ o → o < 5 → ¬ μ 39 o = a) → σ.1 (fr + a) = -9)
theorem zRk_fr {μ m : zM} {v : zVw} {k fr : Int} {σ : zAS} (h : zRk μ v k fr σ) (h1 : m 38 = μ 38) (h2 : m 39 = μ 39) : zRk m v k fr σ := by
  unfold zRk
  rw [h1, h2]
  exact h
abbrev zFrm (k fr : Int) : Prop := (k = 0 ∧ fr = 0) ∨ (k = 1 ∧ fr = 5)
theorem zdel_t : ∀ x : Int, 0 ≤ x → x < 32 → zand x (zxor x (-1)) = 0 ∧ zand x (zxor 0 (-1)) = x := by
  have key : ((List.range 32).all fun i => decide (zand (i : Int) (zxor (i : Int) (-1)) = 0 ∧ zand (i : Int) (zxor 0 (-1)) = (i : Int))) = true := by decide +kernel
  intro x h1 h2
  have h5 := List.all_eq_true.mp key x.toNat (List.mem_range.mpr (by omega))
  rw [Int.toNat_of_nonneg h1] at h5
  exact of_decide_eq_true h5
theorem rk_all {μ : zM} {v : zVw} (ho : vOK v) {k fr : Int} {σ : zAS} (h : zRk μ v k fr σ) {a : Int} (a0 : 0 ≤ a) (a1 : a < vC v k) : μ 38 a = zAll v k ↔ σ.2 (fr + a) = 0 := by
  have hC := vC_b ho k
  have hA := zAll_b ho k
  obtain ⟨h1, -⟩ := h
  have h2 := (h1 a a0 (by omega)).2.1 a1
  have h3 := zdel_t (zAll v k) hA.1 hA.2
  constructor
  · intro e
    rw [h2.1, e]
    exact h3.1
  · intro e
    rw [h2.2, e]
    exact h3.2
theorem rk_free {μ : zM} {v : zVw} {k fr : Int} (hf : zFrm k fr) {σ : zAS} (h : zRk μ v k fr σ) {a b : Int} (ha : 0 ≤ a ∧ a < 5) (e : (b = 1 ∧ ∃ x, 0 ≤ x ∧ x < 5 ∧ μ 39 x = a) ∨ (b = 0 ∧ ∀ x, 0 ≤ x → x < 5 → ¬ μ 39 x = a)) : (b = 1 ∧ ¬ σ.1 (fr + a) = -9) ∨ (b = 0 ∧ σ.1 (fr + a) = -9) := by
  obtain ⟨h1, h2, h3, h4⟩ := h
  rcases e with ⟨e1, x, x0, x1, e2⟩ | ⟨e1, e2⟩
  · left
    refine ⟨e1, ?_⟩
    have := h3 x x0 x1
    rw [e2] at this
    omega
  · exact Or.inr ⟨e1, h4 a ha.1 ha.2 e2⟩
theorem sFstF_is {σ : zAS} {p : Int} (h1 : σ.1 p = -9) (h2 : ¬ σ.2 p = 0) : ∀ (f : Nat) (q : Int), q ≤ p → p < q + (f : Int) → (∀ x, q ≤ x → x < p → ¬ (σ.1 x = -9 ∧ ¬ σ.2 x = 0)) → sFstF σ f q = p
  | 0, q, a, b, _ => by omega
  | f + 1, q, a, b, c => by
    rw [sFstF]
    by_cases e : q = p
    · rw [e, if_pos ⟨h1, h2⟩]
    · rw [if_neg (c q (by omega) (by omega))]
      exact sFstF_is h1 h2 f (q + 1) (by omega) (by omega) (fun x x0 x1 => c x (by omega) x1)
theorem sFst_is {σ : zAS} {p : Int} (hp : 0 ≤ p ∧ p < 10) (h1 : σ.1 p = -9) (h2 : ¬ σ.2 p = 0) (h3 : ∀ x, 0 ≤ x → x < p → ¬ (σ.1 x = -9 ∧ ¬ σ.2 x = 0)) : sFst σ = p := sFstF_is h1 h2 10 0 hp.1 (by omega) h3
theorem sFst_none {σ : zAS} (h : ∀ x, 0 ≤ x → x < 10 → ¬ (σ.1 x = -9 ∧ ¬ σ.2 x = 0)) : sFst σ = -9 := by
  rcases sFst_U σ with e | ⟨e1, e2, e3, e4⟩
  · exact e
  · exact absurd ⟨e3, e4⟩ (h _ e1 e2)
/-- the next who asks -/
def sNx (σ : zAS) (fr : Int) : Int := if sFst σ = -9 then -1 else sFst σ - fr
theorem rk_next {μ : zM} {v : zVw} {k fr : Int} (hf : zFrm k fr) {σ : zAS} (h : zRk μ v k fr σ) {a : Int} (ha : 0 ≤ a ∧ a < 5) (h1 : σ.1 (fr + a) = -9) (h2 : ¬ σ.2 (fr + a) = 0) (h3 : ∀ i, 0 ≤ i → i < a → ¬ (σ.1 (fr + i) = -9 ∧ ¬ σ.2 (fr + i) = 0)) : a = sNx σ fr := by
  obtain ⟨-, hz, -⟩ := h
  unfold sNx
  rw [sFst_is (p := fr + a) (by omega) h1 h2 (fun x x0 x1 => by
    by_cases q : x < fr
    · have := hz x x0 (by omega)
      rw [show 5 - fr + x = x by omega] at this
      exact fun z => z.2 this
    · have := h3 (x - fr) (by omega) (by omega)
      rw [show fr + (x - fr) = x by omega] at this
      exact this), if_neg (by omega)]
  omega
theorem rk_none {μ : zM} {v : zVw} (ho : vOK v) {k fr : Int} (hf : zFrm k fr) {σ : zAS} (h : zRk μ v k fr σ) (h3 : ∀ i, 0 ≤ i → i < vC v k → ¬ (σ.1 (fr + i) = -9 ∧ ¬ σ.2 (fr + i) = 0)) : -1 = sNx σ fr := by
  obtain ⟨ha, hz, -⟩ := h
  unfold sNx
  rw [sFst_none (fun x x0 x1 => by
    by_cases q : fr ≤ x ∧ x < fr + 5
    · by_cases q2 : x - fr < vC v k
      · have := h3 (x - fr) (by omega) q2
        rw [show fr + (x - fr) = x by omega] at this
        exact this
      · have := (ha (x - fr) (by omega) (by omega)).2.2 (by omega)
        rw [show fr + (x - fr) = x by omega] at this
        exact fun z => z.2 this
    · have := hz (x - (5 - fr)) (by omega) (by omega)
      rw [show 5 - fr + (x - (5 - fr)) = x by omega] at this
      exact fun z => z.2 this), if_pos rfl]
theorem sNx_U {σ : zAS} {fr a : Int} (h : a = sNx σ fr) (ha : 0 ≤ a) (hfr : 0 ≤ fr) : sFst σ = fr + a ∧ 0 ≤ fr + a ∧ fr + a < 10 ∧ σ.1 (fr + a) = -9 ∧ ¬ σ.2 (fr + a) = 0 := by
  have hU := sFst_U σ
  unfold sNx at h
  by_cases q : sFst σ = -9
  · rw [if_pos q] at h; omega
  · rw [if_neg q] at h
    have e : sFst σ = fr + a := by omega
    have := hU.resolve_left q
    rw [e] at this
    exact ⟨e, this⟩
theorem sNx_none {σ : zAS} {fr a : Int} (h : a = sNx σ fr) (ha : a < 0) (hfr : fr = 0 ∨ fr = 5) (hz : ∀ x, 0 ≤ x → x < fr → σ.2 x = 0) : sFst σ = -9 := by
  have hU := sFst_U σ
  unfold sNx at h
  by_cases q : sFst σ = -9
  · exact q
  · rw [if_neg q] at h
    have := hU.resolve_left q
    exact absurd (hz (sFst σ) this.1 (by omega)) this.2.2.2
/-- there is somebody to ask: somebody is the dearest -/
theorem sFavN_some (v : zVw) (p s : Int) {j : Int} (hj : 0 ≤ j) (h : ¬ zand s (zbit (sOth p j)) = 0) : ∀ n : Nat, (j < (n : Int)) → (∀ i : Int, 0 ≤ i → i < (n : Int) → 0 ≤ sOth p i) → ¬ sFavN v p s n = -9
  | 0, h1, _ => by omega
  | n + 1, h1, h2 => by
    rw [sFavN]
    have h3 := h2 n (by omega) (by omega)
    split
    · omega
    · rename_i q
      by_cases e : j = (n : Int)
      · intro z
        rw [e] at h
        exact q ⟨h, Or.inl z⟩
      · exact sFavN_some v p s hj h n (by omega) (fun i i0 i1 => h2 i i0 (by omega))
theorem sFav_some (v : zVw) {p s : Int} (hp : 0 ≤ p ∧ p < 10) (hs : 0 ≤ s ∧ s < 32) (h : ¬ s = 0) : ¬ sFav v p s = -9 := by
  have h1 : ∃ j : Int, 0 ≤ j ∧ j < 5 ∧ ¬ zand s (zbit j) = 0 := by
    refine Classical.byContradiction fun q => h ?_
    refine zset_ext s hs.1 hs.2 0 (by omega) (by omega) (fun j j0 j1 => ?_)
    rw [zand_0 j j0 (by omega)]
    exact ⟨fun z => absurd ⟨j, j0, j1, z⟩ q, fun z => absurd rfl z⟩
  obtain ⟨j, j0, j1, h2⟩ := h1
  exact sFavN_some v p s j0 (by rw [zbit_o]; exact h2) 5 (by omega) (fun i i0 i1 => (sOth_b hp ⟨i0, by omega⟩).2.2.1)
theorem zask_t : ∀ s : Int, 0 ≤ s → s < 32 → ∀ a : Int, 0 ≤ a → a < 32 → ∀ j : Int, 0 ≤ j → j < 5 → a = zand s (zxor (zand s (zxor a (-1))) (-1)) → ¬ zand (zand s (zxor a (-1))) (zbit j) = 0 → zand s (zxor (zor a (zbit j)) (-1)) = zand (zand s (zxor a (-1))) (zxor (zbit j) (-1)) ∧ zor a (zbit j) = zand s (zxor (zand (zand s (zxor a (-1))) (zxor (zbit j) (-1))) (-1)) := by
  have key : ((List.range 32).all fun s => (List.range 32).all fun a => (List.range 5).all fun j => !(decide ((a : Int) = zand (s : Int) (zxor (zand (s : Int) (zxor (a : Int) (-1))) (-1)))) || (decide (zand (zand (s : Int) (zxor (a : Int) (-1))) (zbit (j : Int)) = 0)) || (decide (zand (s : Int) (zxor (zor (a : Int) (zbit (j : Int))) (-1)) = zand (zand (s : Int) (zxor (a : Int) (-1))) (zxor (zbit (j : Int)) (-1)) ∧ zor (a : Int) (zbit (j : Int)) = zand (s : Int) (zxor (zand (zand (s : Int) (zxor (a : Int) (-1))) (zxor (zbit (j : Int)) (-1))) (-1))))) = true := by decide +kernel
  intro s h1 h2 a h3 h4 j h5 h6 e1 e2
  have k1 := List.all_eq_true.mp key s.toNat (List.mem_range.mpr (by omega))
  have k2 := List.all_eq_true.mp k1 a.toNat (List.mem_range.mpr (by omega))
  have k3 := List.all_eq_true.mp k2 j.toNat (List.mem_range.mpr (by omega))
  rw [Int.toNat_of_nonneg h1, Int.toNat_of_nonneg h3, Int.toNat_of_nonneg h5, decide_eq_true e1, decide_eq_false e2] at k3
  exact of_decide_eq_true k3
theorem zpop_t : ∀ s : Int, 0 ≤ s → s < 32 → ∀ j : Int, 0 ≤ j → j < 5 → ¬ zand s (zbit j) = 0 → sPop (zand s (zxor (zbit j) (-1))) = sPop s - 1 := by
  have key : ((List.range 32).all fun s => (List.range 5).all fun j => (decide (zand (s : Int) (zbit (j : Int)) = 0)) || (decide (sPop (zand (s : Int) (zxor (zbit (j : Int)) (-1))) = sPop (s : Int) - 1))) = true := by decide +kernel
  intro s h1 h2 j h5 h6 e2
  have k1 := List.all_eq_true.mp key s.toNat (List.mem_range.mpr (by omega))
  have k3 := List.all_eq_true.mp k1 j.toNat (List.mem_range.mpr (by omega))
  rw [Int.toNat_of_nonneg h1, Int.toNat_of_nonneg h5, decide_eq_false e2] at k3
  exact of_decide_eq_true k3
theorem zSum_upd {f g : Int → Int} {p : Int} (hg : ∀ x, ¬ x = p → g x = f x) : ∀ n : Nat, 0 ≤ p → p < (n : Int) → zSum g n = zSum f n - f p + g p
  | 0, _, h => by omega
  | n + 1, h0, h1 => by
    rw [zSum, zSum]
    by_cases e : p = (n : Int)
    · rw [zSum_cong (f := g) (g := f) n (fun i i0 i1 => hg i (by omega)), e]
      omega
    · have := zSum_upd hg n h0 (by omega)
      rw [this, hg (n : Int) (by omega)]
      omega
/-- how many may still be asked, together -/
def sLeft (σ : zAS) : Int := zSum (fun p => sPop (σ.2 p)) 10
theorem rk_in {μ : zM} {v : zVw} (ho : vOK v) {k fr : Int} (hf : zFrm k fr) (h1 : ∀ a, 0 ≤ a → a < 5 → μ 38 a = 0 ∧ μ 39 a = -1) : zRk μ v k fr (sIn v k) := by
  have hC := vC_b ho k
  have hA := zAll_b ho k
  have h3 := zdel_t (zAll v k) hA.1 hA.2
  have hin : ∀ p, (sIn v k).2 p = if vTh v p ∧ ((p < 5 ∧ k = 0) ∨ (5 ≤ p ∧ k = 1)) then zshl 1 (if p < 5 then vR v else vL v) - 1 else 0 := fun _ => rfl
  have e1 : ∀ a, 0 ≤ a → a < vC v k → (sIn v k).2 (fr + a) = zAll v k := fun a a0 a1 => by
    rw [hin]
    unfold zAll
    unfold vC at a1 hC ⊢
    rcases hf with ⟨rfl, rfl⟩ | ⟨rfl, rfl⟩
    · rw [if_pos rfl] at a1 hC
      rw [if_pos (by omega), if_pos (by omega), if_neg (by omega)]
    · rw [if_neg (by omega)] at a1 hC
      rw [if_pos (by omega), if_neg (by omega), if_pos (by omega)]
  have e2 : ∀ a, 0 ≤ a → a < 5 → vC v k ≤ a → (sIn v k).2 (fr + a) = 0 := fun a a0 a1 a2 => by
    rw [hin]
    unfold vC at a2
    rcases hf with ⟨rfl, rfl⟩ | ⟨rfl, rfl⟩
    · rw [if_pos rfl] at a2
      rw [if_neg (by omega)]
    · rw [if_neg (by omega)] at a2
      rw [if_neg (by omega)]
  refine ⟨fun a a0 a1 => ⟨by have := (h1 a a0 a1).1; omega, fun a2 => ?_, fun a2 => e2 a a0 a1 a2⟩, fun o o0 o1 => ?_, fun o o0 o1 => Or.inl ⟨(h1 o o0 o1).2, rfl⟩, fun a a0 a1 _ => rfl⟩
  · rw [e1 a a0 a2, (h1 a a0 a1).1]
    exact ⟨h3.2.symm, h3.1.symm⟩
  · rw [hin, if_neg (by omega)]
theorem rk_left {v : zVw} (ho : vOK v) {k : Int} (hk : k = 0 ∨ k = 1) : sLeft (sIn v k) ≤ 25 := by
  have hin : ∀ p, (sIn v k).2 p = if vTh v p ∧ ((p < 5 ∧ k = 0) ∨ (5 ≤ p ∧ k = 1)) then zshl 1 (if p < 5 then vR v else vL v) - 1 else 0 := fun _ => rfl
  have hB := sIn_b ho k
  have hb : ∀ p : Int, 0 ≤ p → p < 10 → 0 ≤ sPop ((sIn v k).2 p) ∧ sPop ((sIn v k).2 p) ≤ 5 := fun p p0 p1 => sPop_b (hB p p0 p1).2.1
  have hz : ∀ p : Int, (5 ≤ p ∧ k = 0) ∨ (p < 5 ∧ k = 1) → sPop ((sIn v k).2 p) = 0 := fun p hp => by
    rw [hin, if_neg (by omega)]
    rfl
  unfold sLeft
  show zSum (fun p => sPop ((sIn v k).2 p)) 9 + sPop ((sIn v k).2 9) ≤ 25
  have s9 : zSum (fun p => sPop ((sIn v k).2 p)) 9 = 0 + sPop ((sIn v k).2 0) + sPop ((sIn v k).2 1) + sPop ((sIn v k).2 2) + sPop ((sIn v k).2 3) + sPop ((sIn v k).2 4) + sPop ((sIn v k).2 5) + sPop ((sIn v k).2 6) + sPop ((sIn v k).2 7) + sPop ((sIn v k).2 8) := rfl
  rw [s9]
  have b0 := hb 0 (by omega) (by omega)
  have b1 := hb 1 (by omega) (by omega)
  have b2 := hb 2 (by omega) (by omega)
  have b3 := hb 3 (by omega) (by omega)
  have b4 := hb 4 (by omega) (by omega)
  have b5 := hb 5 (by omega) (by omega)
  have b6 := hb 6 (by omega) (by omega)
  have b7 := hb 7 (by omega) (by omega)
  have b8 := hb 8 (by omega) (by omega)
  have b9 := hb 9 (by omega) (by omega)
  rcases hk with hk | hk
  · have z5 := hz 5 (by omega)
    have z6 := hz 6 (by omega)
    have z7 := hz 7 (by omega)
    have z8 := hz 8 (by omega)
    have z9 := hz 9 (by omega)
    omega
  · have z0 := hz 0 (by omega)
    have z1 := hz 1 (by omega)
    have z2 := hz 2 (by omega)
    have z3 := hz 3 (by omega)
    have z4 := hz 4 (by omega)
    omega
theorem rk_yes {μ m : zM} {k fr a o : Int} {f g : Int → Int} (hf : zFrm k fr) (ha : 0 ≤ a ∧ a < 5) (ho5 : 0 ≤ o ∧ o < 5) (hfr : f (fr + a) = -9)
    (h3 : ∀ o, 0 ≤ o → o < 5 → (μ 39 o = -1 ∧ f (5 - fr + o) = -9) ∨ ((0 ≤ μ 39 o ∧ μ 39 o < 5) ∧ f (5 - fr + o) = fr + μ 39 o ∧ f (fr + μ 39 o) = 5 - fr + o))
    (h4 : ∀ a, 0 ≤ a → a < 5 → (∀ o, 0 ≤ o → o < 5 → ¬ μ 39 o = a) → f (fr + a) = -9)
    (e39 : ∀ x, m 39 x = if x = o then a else μ 39 x)
    (hS1 : ∀ x, g x = if x = fr + a then 5 - fr + o else if x = 5 - fr + o then fr + a else if x = f (5 - fr + o) then -9 else f x) :
    (∀ o, 0 ≤ o → o < 5 → (m 39 o = -1 ∧ g (5 - fr + o) = -9) ∨ ((0 ≤ m 39 o ∧ m 39 o < 5) ∧ g (5 - fr + o) = fr + m 39 o ∧ g (fr + m 39 o) = 5 - fr + o))
    ∧ (∀ a, 0 ≤ a → a < 5 → (∀ o, 0 ≤ o → o < 5 → ¬ m 39 o = a) → g (fr + a) = -9) := by
  have hd : ∀ x y, 0 ≤ x → x < 5 → 0 ≤ y → y < 5 → ¬ fr + x = 5 - fr + y := fun x y x0 x1 y0 y1 => by omega
  have g3 := h3 o ho5.1 ho5.2
  have hns : ∀ x, 0 ≤ x → x < 5 → ¬ 5 - fr + x = f (5 - fr + o) := fun x x0 x1 z => by
    rcases g3 with g3 | g3
    · omega
    · rw [g3.2.1] at z
      exact hd _ _ g3.1.1 g3.1.2 x0 x1 z.symm
  refine ⟨fun x x0 x1 => ?_, fun y y0 y1 hy => ?_⟩
  · have gx := h3 x x0 x1
    rw [e39]
    by_cases e : x = o
    · rw [if_pos e, e]
      right
      refine ⟨ha, ?_, ?_⟩
      · rw [hS1, if_neg (fun z => hd a o ha.1 ha.2 ho5.1 ho5.2 z.symm), if_pos rfl]
      · rw [hS1, if_pos rfl]
    · rw [if_neg e]
      have nxo : ¬ 5 - fr + x = 5 - fr + o := fun z => e (by omega)
      rcases gx with gx | gx
      · left
        refine ⟨gx.1, ?_⟩
        rw [hS1, if_neg (fun z => hd a x ha.1 ha.2 x0 x1 z.symm), if_neg nxo, if_neg (hns x x0 x1)]
        exact gx.2
      · right
        have na : ¬ fr + μ 39 x = fr + a := fun z => by
          have h5 := gx.2.2
          rw [z, hfr] at h5
          omega
        have nh : ¬ fr + μ 39 x = f (5 - fr + o) := fun z => by
          have h5 := gx.2.2
          rw [z] at h5
          rcases g3 with g3 | g3
          · rw [g3.2] at z
            have := gx.1.1
            omega
          · rw [g3.2.1, g3.2.2] at h5
            exact nxo h5.symm
        refine ⟨gx.1, ?_, ?_⟩
        · rw [hS1, if_neg (fun z => hd a x ha.1 ha.2 x0 x1 z.symm), if_neg nxo, if_neg (hns x x0 x1)]
          exact gx.2.1
        · rw [hS1, if_neg na, if_neg (hd _ _ gx.1.1 gx.1.2 ho5.1 ho5.2), if_neg nh]
          exact gx.2.2
  · have hya : ¬ y = a := fun z => hy o ho5.1 ho5.2 (by rw [e39, if_pos rfl, z])
    have hya2 : ¬ fr + y = fr + a := fun z => hya (by omega)
    rw [hS1, if_neg hya2, if_neg (hd y o y0 y1 ho5.1 ho5.2)]
    by_cases hh : fr + y = f (5 - fr + o)
    · rw [if_pos hh]
    · rw [if_neg hh]
      refine h4 y y0 y1 (fun x x0 x1 z => ?_)
      by_cases e : x = o
      · rw [e] at z
        rcases g3 with g3 | g3
        · rw [g3.1] at z; omega
        · rw [g3.2.1, z] at hh
          exact hh rfl
      · exact hy x x0 x1 (by rw [e39, if_neg e]; exact z)
/-- one asks -/
theorem rk_step {μ m : zM} {v : zVw} (ho : vOK v) {k fr a o : Int} (hf : zFrm k fr) {σ : zAS} (h : zRk μ v k fr σ) (hB : zAb σ) (ha : 0 ≤ a ∧ a < 5) (hac : a < vC v k) (hfr : σ.1 (fr + a) = -9) (hfa : sFav v (fr + a) (σ.2 (fr + a)) = 5 - fr + o) (ho5 : 0 ≤ o ∧ o < 5)
    (h38 : ∀ x, m 38 x = if x = a then zor (μ 38 a) (zbit o) else μ 38 x)
    (h39 : (μ 39 o < 0 ∨ sBef v (5 - fr + o) (fr + a) (fr + μ 39 o)) → ∀ x, m 39 x = if x = o then a else μ 39 x)
    (h39' : ¬ (μ 39 o < 0 ∨ sBef v (5 - fr + o) (fr + a) (fr + μ 39 o)) → ∀ x, m 39 x = μ 39 x) : zRk m v k fr (sStp v σ (fr + a)) := by
  have hC := vC_b ho k
  have hA := zAll_b ho k
  have hU := sFav_U v (σ.2 (fr + a)) (p := fr + a) (by omega)
  have hbit : ¬ zand (σ.2 (fr + a)) (zbit o) = 0 := by
    have := (hU.resolve_left (by omega)).2
    rw [hfa, show zbit (5 - fr + o) = zbit o by unfold zbit; rw [show (5 - fr + o) % 5 = o % 5 by omega]] at this
    exact this
  obtain ⟨h1, h2, h3, h4⟩ := h
  have g := h1 a ha.1 ha.2
  have ga := g.2.1 hac
  have hE := ga.2
  rw [ga.1] at hE
  have hbit2 := hbit
  rw [ga.1] at hbit2
  have T := zask_t (zAll v k) hA.1 hA.2 (μ 38 a) g.1.1 g.1.2 o ho5.1 ho5.2 hE hbit2
  rw [← ga.1] at T
  have hbo : zbit (5 - fr + o) = zbit o := by unfold zbit; rw [show (5 - fr + o) % 5 = o % 5 by omega]
  have hor := zor_bit (μ 38 a) g.1.1 g.1.2 o (by omega) (by omega)
  -- the sets
  have hS2 : ∀ x, (sStp v σ (fr + a)).2 x = if x = fr + a then zand (σ.2 (fr + a)) (zxor (zbit o) (-1)) else σ.2 x := by
    intro x
    unfold sStp
    rw [if_neg (by rw [hfa]; omega), hfa, hbo]
    split <;> rfl
  have p1 : ∀ y, 0 ≤ y → y < 5 → (0 ≤ m 38 y ∧ m 38 y < 32) ∧ (y < vC v k → (sStp v σ (fr + a)).2 (fr + y) = zand (zAll v k) (zxor (m 38 y) (-1)) ∧ m 38 y = zand (zAll v k) (zxor ((sStp v σ (fr + a)).2 (fr + y)) (-1))) ∧ (vC v k ≤ y → (sStp v σ (fr + a)).2 (fr + y) = 0) := fun y y0 y1 => by
    have gy := h1 y y0 y1
    rw [hS2, h38]
    by_cases e : y = a
    · rw [if_pos e, if_pos (by omega)]
      exact ⟨hor, fun _ => ⟨T.1.symm, T.2⟩, fun z => by omega⟩
    · rw [if_neg e, if_neg (by omega)]
      exact gy
  have p2 : ∀ x, 0 ≤ x → x < 5 → (sStp v σ (fr + a)).2 (5 - fr + x) = 0 := fun x x0 x1 => by
    rw [hS2, if_neg (by omega)]
    exact h2 x x0 x1
  have g3 := h3 o ho5.1 ho5.2
  by_cases q : μ 39 o < 0 ∨ sBef v (5 - fr + o) (fr + a) (fr + μ 39 o)
  · have e39 := h39 q
    have hS1 : ∀ x, (sStp v σ (fr + a)).1 x = if x = fr + a then 5 - fr + o else if x = 5 - fr + o then fr + a else if x = σ.1 (5 - fr + o) then -9 else σ.1 x := by
      intro x
      unfold sStp
      rw [if_neg (by rw [hfa]; omega), hfa, if_neg (fun z => by
        rcases q with q | q
        · exact z.1 (by omega)
        · rcases g3 with g3 | g3
          · exact z.1 g3.2
          · rw [g3.2.1] at z
            exact z.2 q)]
    exact ⟨p1, p2, rk_yes hf ha ho5 hfr h3 h4 e39 hS1⟩
  · have e39 := h39' q
    have hS1 : ∀ x, (sStp v σ (fr + a)).1 x = σ.1 x := by
      intro x
      unfold sStp
      rw [if_neg (by rw [hfa]; omega), hfa, if_pos ⟨fun z => by
        rcases g3 with g3 | g3
        · exact q (Or.inl (by omega))
        · omega, fun z => by
        rcases g3 with g3 | g3
        · exact q (Or.inl (by omega))
        · rw [g3.2.1] at z
          exact q (Or.inr z)⟩]
    refine ⟨p1, p2, fun x x0 x1 => ?_, fun y y0 y1 hy => ?_⟩
    · rw [e39, hS1, hS1]
      exact h3 x x0 x1
    · rw [hS1]
      exact h4 y y0 y1 (fun x x0 x1 z => hy x x0 x1 (by rw [e39]; exact z))
theorem rk_less {v : zVw} {σ : zAS} {p o : Int} (hB : zAb σ) (hp : 0 ≤ p ∧ p < 10) (hfa : sFav v p (σ.2 p) = sOth p o) (ho5 : 0 ≤ o ∧ o < 5) : sLeft (sStp v σ p) = sLeft σ - 1 := by
  have hb := sOth_b hp ho5
  have hU := sFav_U v (σ.2 p) hp
  have hbit : ¬ zand (σ.2 p) (zbit o) = 0 := by
    have := (hU.resolve_left (by omega)).2
    rw [hfa, zbit_o] at this
    exact this
  have hS2 : ∀ x, (sStp v σ p).2 x = if x = p then zand (σ.2 p) (zxor (zbit o) (-1)) else σ.2 x := by
    intro x
    unfold sStp
    rw [if_neg (by rw [hfa]; omega), hfa, zbit_o]
    split <;> rfl
  unfold sLeft
  rw [zSum_upd (f := fun x => sPop (σ.2 x)) (g := fun x => sPop ((sStp v σ p).2 x)) (p := p) (fun x hx => by show sPop ((sStp v σ p).2 x) = sPop (σ.2 x); rw [hS2, if_neg hx]) 10 hp.1 (by omega)]
  show _ - sPop (σ.2 p) + sPop ((sStp v σ p).2 p) = _
  rw [hS2, if_pos rfl, zpop_t _ (hB p hp.1 hp.2).2.1 (hB p hp.1 hp.2).2.2 o ho5.1 ho5.2 hbit]
  omega
theorem sLeft_b {σ : zAS} (hB : zAb σ) : 0 ≤ sLeft σ := (zSum_b (f := fun p => sPop (σ.2 p)) (c := 5) 10 (fun i i0 i1 => sPop_b (hB i i0 (by omega)).2.1)).1
theorem sIt_s {v : zVw} {σ : zAS} {k : Int} (hk : 0 ≤ k) (h : ¬ sFst (sIt v σ k.toNat) = -9) : sIt v σ (k + 1).toNat = sStp v (sIt v σ k.toNat) (sFst (sIt v σ k.toNat)) := by
  rw [show (k + 1).toNat = k.toNat + 1 by omega, sIt, if_neg h]
theorem sIt_25 {v : zVw} {σ : zAS} {k : Int} (hk : 0 ≤ k ∧ k ≤ 25) (h : sFst (sIt v σ k.toNat) = -9) : sIt v σ 25 = sIt v σ k.toNat := by
  rw [show (25 : Nat) = k.toNat + (25 - k).toNat by omega]
  exact sIt_stop h _
