/-! by ranks: whom all get; by the likings: so many at most -/
theorem sOth_f {k fr r : Int} (hf : zFrm k fr) (hr : 0 ≤ r ∧ r < 5) (x : Int) : sOth (5 - fr + r) x = fr + x := by
  unfold sOth
  split <;> omega
theorem sOth_f2 {k fr a : Int} (hf : zFrm k fr) (ha : 0 ≤ a ∧ a < 5) (x : Int) : sOth (fr + a) x = 5 - fr + x := by
  unfold sOth
  split <;> omega
theorem rk_lt {μ : zM} {v : zVw} {k fr a : Int} (hf : zFrm k fr) {σ : zAS} (h : zRk μ v k fr σ) (h0 : 0 ≤ a) (h1 : fr + a < 10) (h2 : ¬ σ.2 (fr + a) = 0) : a < 5 ∧ a < vC v k := by
  obtain ⟨g1, g2, -⟩ := h
  have a5 : a < 5 := by
    refine Decidable.byContradiction fun q => h2 ?_
    have := g2 (a - 5) (by omega) (by omega)
    rw [show 5 - fr + (a - 5) = fr + a by omega] at this
    exact this
  refine ⟨a5, Decidable.byContradiction fun q => h2 ((g1 a h0 a5).2.2 (by omega))⟩
theorem rk_zero {μ : zM} {v : zVw} {k fr : Int} (hf : zFrm k fr) {σ : zAS} (h : zRk μ v k fr σ) : ∀ x, 0 ≤ x → x < fr → σ.2 x = 0 := fun x x0 x1 => by
  obtain ⟨-, g2, -⟩ := h
  have := g2 x x0 (by omega)
  rw [show 5 - fr + x = x by omega] at this
  exact this
def zGt (m : zM) (K : Int → Int) (fr o : Int) (f : Int → Int) : Prop :=
  (∀ x, 0 ≤ x → x < 5 → m 40 (5 - fr + x) = if x < o then f (5 - fr + x) else -9)
  ∧ (∀ y, 0 ≤ y → y < 5 → ((∀ x, 0 ≤ x → x < o → ¬ K x = y) → m 40 (fr + y) = -9) ∧ (∀ x, 0 ≤ x → x < o → K x = y → m 40 (fr + y) = 5 - fr + x))
theorem zGt_0 {m : zM} {K : Int → Int} {k fr : Int} {f : Int → Int} (hf : zFrm k fr) (h : ∀ x, 0 ≤ x → x < 10 → m 40 x = -9) : zGt m K fr 0 f := by
  refine ⟨fun x x0 x1 => ?_, fun y y0 y1 => ⟨fun _ => h _ (by omega) (by omega), fun x x0 x1 => by omega⟩⟩
  rw [if_neg (by omega)]
  exact h _ (by omega) (by omega)
theorem zGt_no {m : zM} {K : Int → Int} {fr o : Int} {f : Int → Int} (h : zGt m K fr o f) (h1 : K o = -1) (h2 : f (5 - fr + o) = -9) : zGt m K fr (o + 1) f := by
  obtain ⟨g1, g2⟩ := h
  refine ⟨fun x x0 x1 => ?_, fun y y0 y1 => ⟨fun z => (g2 y y0 y1).1 (fun x x0 x1 => z x x0 (by omega)), fun x x0 x1 e => ?_⟩⟩
  · rw [g1 x x0 x1]
    by_cases e : x = o
    · rw [e, if_neg (by omega), if_pos (by omega), h2]
    · by_cases e2 : x < o
      · rw [if_pos e2, if_pos (by omega)]
      · rw [if_neg e2, if_neg (by omega)]
  · by_cases e2 : x = o
    · rw [e2, h1] at e; omega
    · exact (g2 y y0 y1).2 x x0 (by omega) e
theorem zGt_yes {m m1 m2 : zM} {K : Int → Int} {k fr o : Int} {f : Int → Int} (hf : zFrm k fr) (h : zGt m K fr o f) (ho : 0 ≤ o ∧ o < 5) (hK : 0 ≤ K o ∧ K o < 5) (h2 : f (5 - fr + o) = fr + K o) (hi : ∀ x, 0 ≤ x → x < o → ¬ K x = K o) (e1 : m1 = zs m 40 (5 - fr + o) (fr + K o)) (e2 : m2 = zs m1 40 (fr + K o) (5 - fr + o)) : zGt m2 K fr (o + 1) f := by
  obtain ⟨g1, g2⟩ := h
  have hd : ∀ x y, 0 ≤ x → x < 5 → 0 ≤ y → y < 5 → ¬ fr + x = 5 - fr + y := fun x y x0 x1 y0 y1 => by omega
  refine ⟨fun x x0 x1 => ?_, fun y y0 y1 => ?_⟩
  · rw [e2, zs_at, if_neg (fun z => hd _ _ hK.1 hK.2 x0 x1 z.symm), e1, zs_at]
    by_cases e : x = o
    · rw [e, if_pos rfl, if_pos (by omega), h2]
    · rw [if_neg (by omega), g1 x x0 x1]
      by_cases e3 : x < o
      · rw [if_pos e3, if_pos (by omega)]
      · rw [if_neg e3, if_neg (by omega)]
  · rw [e2, zs_at]
    by_cases e : y = K o
    · rw [if_pos (by omega)]
      refine ⟨fun z => absurd e.symm (z o ho.1 (by omega)), fun x x0 x1 ex => ?_⟩
      by_cases e3 : x = o
      · rw [e3]
      · exact absurd (ex.trans e) (hi x x0 (by omega))
    · rw [if_neg (by omega), e1, zs_at, if_neg (hd _ _ y0 y1 ho.1 ho.2)]
      refine ⟨fun z => (g2 y y0 y1).1 (fun x x0 x1 => z x x0 (by omega)), fun x x0 x1 ex => ?_⟩
      by_cases e3 : x = o
      · rw [e3] at ex; exact absurd ex.symm e
      · exact (g2 y y0 y1).2 x x0 (by omega) ex
theorem rk_inj {μ : zM} {v : zVw} {k fr : Int} {σ : zAS} (h : zRk μ v k fr σ) {x o : Int} (hx : 0 ≤ x ∧ x < 5) (ho : 0 ≤ o ∧ o < 5) (hK : 0 ≤ μ 39 o) (e : μ 39 x = μ 39 o) : x = o := by
  obtain ⟨-, -, h3, -⟩ := h
  have g1 := (h3 x hx.1 hx.2).resolve_left (fun z => by omega)
  have g2 := (h3 o ho.1 ho.2).resolve_left (fun z => by omega)
  have e1 := g1.2.2
  rw [e, g2.2.2] at e1
  omega
theorem zGt_end {m μ : zM} {v : zVw} {k fr : Int} {σ : zAS} (hf : zFrm k fr) (h : zRk μ v k fr σ) (g : zGt m (fun x => μ 39 x) fr 5 σ.1) : ∀ p, 0 ≤ p → p < 10 → m 40 p = σ.1 p := fun p p0 p1 => by
  obtain ⟨g1, g2⟩ := g
  obtain ⟨-, -, h3, h4⟩ := h
  by_cases q : fr ≤ p ∧ p < fr + 5
  · have gy := g2 (p - fr) (by omega) (by omega)
    have hy := h4 (p - fr) (by omega) (by omega)
    rw [show fr + (p - fr) = p by omega] at gy hy
    by_cases e : ∃ x, 0 ≤ x ∧ x < 5 ∧ μ 39 x = p - fr
    · obtain ⟨x, x0, x1, e⟩ := e
      have h5 := (h3 x x0 x1).resolve_left (fun z => by omega)
      rw [gy.2 x x0 x1 e]
      have h6 := h5.2.2
      rw [e, show fr + (p - fr) = p by omega] at h6
      exact h6.symm
    · have e' : ∀ o, 0 ≤ o → o < 5 → ¬ μ 39 o = p - fr := fun x x0 x1 z => e ⟨x, x0, x1, z⟩
      rw [gy.1 e', hy e']
  · have gx := g1 (p - (5 - fr)) (by omega) (by omega)
    rw [if_pos (by omega), show 5 - fr + (p - (5 - fr)) = p by omega] at gx
    exact gx
/-! so many at most -/
theorem zlm_t : ∀ s : Int, 0 ≤ s → s < 32 → ∀ c : Int, 0 ≤ c → c < 32 → ∀ j : Int, 0 ≤ j → j < 5 → zand s (zxor (zor c (zbit j)) (-1)) = zand (zand s (zxor c (-1))) (zxor (zbit j) (-1)) ∧ (zand c (zxor s (-1)) = 0 → ¬ zand (zand s (zxor c (-1))) (zbit j) = 0 → zand (zor c (zbit j)) (zxor s (-1)) = 0) := by
  have key : ((List.range 32).all fun s => (List.range 32).all fun a => (List.range 5).all fun j => (decide (zand (s : Int) (zxor (zor (a : Int) (zbit (j : Int))) (-1)) = zand (zand (s : Int) (zxor (a : Int) (-1))) (zxor (zbit (j : Int)) (-1)))) && (!(decide (zand (a : Int) (zxor (s : Int) (-1)) = 0)) || decide (zand (zand (s : Int) (zxor (a : Int) (-1))) (zbit (j : Int)) = 0) || decide (zand (zor (a : Int) (zbit (j : Int))) (zxor (s : Int) (-1)) = 0))) = true := by decide +kernel
  intro s h1 h2 a h3 h4 j h5 h6
  have k1 := List.all_eq_true.mp key s.toNat (List.mem_range.mpr (by omega))
  have k2 := List.all_eq_true.mp k1 a.toNat (List.mem_range.mpr (by omega))
  have k3 := List.all_eq_true.mp k2 j.toNat (List.mem_range.mpr (by omega))
  rw [Int.toNat_of_nonneg h1, Int.toNat_of_nonneg h3, Int.toNat_of_nonneg h5, Bool.and_eq_true] at k3
  refine ⟨of_decide_eq_true k3.1, fun e1 e2 => ?_⟩
  have k4 := k3.2
  rw [decide_eq_true e1, decide_eq_false e2] at k4
  exact of_decide_eq_true k4
theorem zsub_t : ∀ s : Int, 0 ≤ s → s < 32 → ∀ c : Int, 0 ≤ c → c < 32 → zand s (zxor c (-1)) = 0 → zand c (zxor s (-1)) = 0 → c = s := by
  have key : ((List.range 32).all fun s => (List.range 32).all fun a => !(decide (zand (s : Int) (zxor (a : Int) (-1)) = 0)) || !(decide (zand (a : Int) (zxor (s : Int) (-1)) = 0)) || decide ((a : Int) = (s : Int))) = true := by decide +kernel
  intro s h1 h2 a h3 h4 e1 e2
  have k1 := List.all_eq_true.mp key s.toNat (List.mem_range.mpr (by omega))
  have k2 := List.all_eq_true.mp k1 a.toNat (List.mem_range.mpr (by omega))
  rw [Int.toNat_of_nonneg h1, Int.toNat_of_nonneg h3, decide_eq_true e1, decide_eq_true e2] at k2
  exact of_decide_eq_true k2
theorem zsub_0 : ∀ s : Int, 0 ≤ s → s < 32 → zand s (zxor 0 (-1)) = s ∧ zand 0 (zxor s (-1)) = 0 ∧ (sPop s = 0 → s = 0) := by
  have key : ((List.range 32).all fun s => decide (zand (s : Int) (zxor 0 (-1)) = (s : Int) ∧ zand 0 (zxor (s : Int) (-1)) = 0 ∧ (sPop (s : Int) = 0 → (s : Int) = 0))) = true := by decide +kernel
  intro s h1 h2
  have k1 := List.all_eq_true.mp key s.toNat (List.mem_range.mpr (by omega))
  rw [Int.toNat_of_nonneg h1] at k1
  exact of_decide_eq_true k1
/-- what is left of a set when so many are chosen -/
def sRst (v : zVw) (p s : Int) (n : Nat) : Int := zand s (zxor (sLkN v p s n) (-1))
theorem sRst_b {v : zVw} {p s : Int} (hp : 0 ≤ p ∧ p < 10) (hs : 0 ≤ s ∧ s < 32) (n : Nat) : 0 ≤ sRst v p s n ∧ sRst v p s n < 32 := by
  have h := sLkN_b v s hp n
  exact zandn_b s hs.1 hs.2 _ h.1 h.2
/-- one more: whom the dearest of those left is -/
theorem sLkN_next {v : zVw} {p s : Int} (hp : 0 ≤ p ∧ p < 10) (hs : 0 ≤ s ∧ s < 32) (n : Nat) (h : ¬ sRst v p s n = 0) :
    ¬ sFav v p (sRst v p s n) = -9 ∧ (0 ≤ sFav v p (sRst v p s n) % 5 ∧ sFav v p (sRst v p s n) % 5 < 5) ∧ ¬ zand (sRst v p s n) (zbit (sFav v p (sRst v p s n) % 5)) = 0
    ∧ sLkN v p s (n + 1) = zor (sLkN v p s n) (zbit (sFav v p (sRst v p s n) % 5)) ∧ sRst v p s (n + 1) = zand (sRst v p s n) (zxor (zbit (sFav v p (sRst v p s n) % 5)) (-1)) := by
  have hb := sRst_b (v := v) hp hs n
  have hl := sLkN_b v s hp n
  have h1 := sFav_some v hp hb h
  have h2 := (sFav_U v (sRst v p s n) hp).resolve_left h1
  have h3 : sLkN v p s (n + 1) = zor (sLkN v p s n) (zbit (sFav v p (sRst v p s n) % 5)) := by
    have e : zand s (zxor (sLkN v p s n) (-1)) = sRst v p s n := rfl
    rw [sLkN, e, if_neg h1, zbit_m]
  have hj : 0 ≤ sFav v p (sRst v p s n) % 5 ∧ sFav v p (sRst v p s n) % 5 < 5 := by omega
  refine ⟨h1, hj, ?_, h3, ?_⟩
  · rw [zbit_m]
    exact h2.2
  · show zand s (zxor (sLkN v p s (n + 1)) (-1)) = _
    rw [h3]
    exact (zlm_t s hs.1 hs.2 _ hl.1 hl.2 _ hj.1 hj.2).1
theorem sLkN_stop {v : zVw} {p s : Int} (hp : 0 ≤ p ∧ p < 10) {n : Nat} (h : sRst v p s n = 0) : ∀ k, sLkN v p s (n + k) = sLkN v p s n
  | 0 => rfl
  | k + 1 => by
    have ih := sLkN_stop hp h k
    have h1 : zand s (zxor (sLkN v p s n) (-1)) = 0 := h
    rw [show n + (k + 1) = (n + k) + 1 by omega, sLkN, ih, h1, if_pos (sFav_0 v hp)]
theorem sLkN_in {v : zVw} {p s : Int} (hp : 0 ≤ p ∧ p < 10) (hs : 0 ≤ s ∧ s < 32) : ∀ n : Nat, zand (sLkN v p s n) (zxor s (-1)) = 0 ∧ (sRst v p s n = 0 ∨ sPop (sRst v p s n) ≤ 5 - (n : Int))
  | 0 => by
    have h := zsub_0 s hs.1 hs.2
    refine ⟨h.2.1, Or.inr ?_⟩
    have := sPop_b (s := sRst v p s 0) (sRst_b hp hs 0).1
    omega
  | n + 1 => by
    have ih := sLkN_in (v := v) hp hs n
    have hl := sLkN_b v s hp n
    have hb := sRst_b (v := v) hp hs n
    by_cases q : sRst v p s n = 0
    · have e := sLkN_stop hp q 1
      have e2 : sRst v p s (n + 1) = 0 := by
        show zand s (zxor (sLkN v p s (n + 1)) (-1)) = 0
        rw [e]
        exact q
      rw [e]
      exact ⟨ih.1, Or.inl e2⟩
    · have h := sLkN_next hp hs n q
      refine ⟨?_, Or.inr ?_⟩
      · rw [h.2.2.2.1]
        exact (zlm_t s hs.1 hs.2 _ hl.1 hl.2 _ h.2.1.1 h.2.1.2).2 ih.1 h.2.2.1
      · rw [h.2.2.2.2, zpop_t _ hb.1 hb.2 _ h.2.1.1 h.2.1.2 h.2.2.1]
        have := ih.2.resolve_left q
        omega
theorem sLkN_5 {v : zVw} {p s : Int} (hp : 0 ≤ p ∧ p < 10) (hs : 0 ≤ s ∧ s < 32) : sLkN v p s 5 = s := by
  have h := sLkN_in (v := v) hp hs 5
  have hl := sLkN_b v s hp 5
  have hb := sRst_b (v := v) hp hs 5
  have h0 : sRst v p s 5 = 0 := by
    rcases h.2 with e | e
    · exact e
    · refine (zsub_0 _ hb.1 hb.2).2.2 ?_
      have := sPop_b hb.1
      omega
  exact zsub_t s hs.1 hs.2 _ hl.1 hl.2 h0 h.1
def sCc (v : zVw) (w p : Int) : Int := if w = 1 then sLkN v p (sSl v p) 3 else if w = 2 then sLkN v p (sSl v p) 1 else sSl v p
theorem sCc_n {v : zVw} (ho : vOK v) {w p n j : Int} (hp : 0 ≤ p ∧ p < 10) (hn : n = if w = 1 then 3 else if w = 2 then 1 else 5) (hj : 0 ≤ j ∧ j ≤ n) (h : j = n ∨ sRst v p (sSl v p) j.toNat = 0) : sLkN v p (sSl v p) j.toNat = sCc v w p := by
  have hs : 0 ≤ sSl v p ∧ sSl v p < 32 := sSlN_b ho p 5
  have e : sLkN v p (sSl v p) n.toNat = sCc v w p := by
    unfold sCc
    rw [hn]
    split
    · rfl
    · split
      · rfl
      · exact sLkN_5 hp hs
  rcases h with h | h
  · rw [h]; exact e
  · rw [← e, show n.toNat = j.toNat + (n - j).toNat by omega]
    exact (sLkN_stop hp h _).symm
theorem sCc_0 {v : zVw} (ho : vOK v) {w p : Int} (hp : 0 ≤ p ∧ p < 10) (h : ¬ vTh v p) : sCc v w p = 0 := by
  unfold sCc
  rw [sSl_no ho h, sLkN_0 v hp, sLkN_0 v hp]
  split
  · rfl
  · split <;> rfl
theorem sCc_b {v : zVw} (ho : vOK v) {w p : Int} (hp : 0 ≤ p ∧ p < 10) : 0 ≤ sCc v w p ∧ sCc v w p < 32 := by
  have hs : 0 ≤ sSl v p ∧ sSl v p < 32 := sSlN_b ho p 5
  unfold sCc
  split
  · exact sLkN_b v _ hp 3
  · split
    · exact sLkN_b v _ hp 1
    · exact hs
theorem sVl_c {v : zVw} {w p : Int} (h : ¬ w = 3) : sVl v w p = sCc v w p := by
  unfold sVl sVal sCc
  rw [if_neg h]
theorem sVl_3 (v : zVw) (p : Int) : sVl v 3 p = if (sIt v (sIn v 0) 25).1 p = -9 then 0 else zand (sCc v 3 p) (zbit ((sIt v (sIn v 0) 25).1 p)) := by
  have e : sCc v 3 p = sSl v p := by
    unfold sCc
    rw [if_neg (by omega), if_neg (by omega)]
  unfold sVl sVal
  rw [if_neg (by omega), if_neg (by omega), if_pos rfl, e]
theorem zand_z (x : Int) : zand x 0 = 0 := by
  unfold zand
  show (iI x &&& (0 : Int32)).toInt = 0
  rw [Int32.and_zero]
  rfl
