/-! a row copied whole; what is told, changed -/
def zcp (μ : zM) (i j : Nat) (n : Int) : zM := fun a => if a = j then fun x => if 0 ≤ x ∧ x < n then μ i x else μ j x else μ a
theorem zcp_ne (μ : zM) {i j a : Nat} (n : Int) (h : a ≠ j) : zcp μ i j n a = μ a := by simp [zcp, h]
theorem zcp_at (μ : zM) (i j : Nat) (n x : Int) : zcp μ i j n j x = if 0 ≤ x ∧ x < n then μ i x else μ j x := by simp [zcp]
theorem zcp_R {μ : zM} (h : zRM μ) (i j : Nat) (n : Int) : zRM (zcp μ i j n) := by
  intro a b
  unfold zcp
  by_cases e : a = j
  · rw [if_pos e]
    by_cases e2 : 0 ≤ b ∧ b < n
    · rw [if_pos e2]; exact h i b
    · rw [if_neg e2]; exact h j b
  · rw [if_neg e]; exact h a b
theorem zW_setr (G : zG) (μ : zM) {i : Nat} (h : i < 68) (r : Int → Int) : (zW G μ).set i (G.2.2.2 i, zc G (zd i) r) = zW G (fun a => if a = i then r else μ a) := by
  apply List.ext_getElem?
  intro k
  by_cases hk : k = i
  · subst hk
    rw [List.getElem?_set_self (by simpa [zW] using h), zW_get G _ h]
    simp
  · rw [List.getElem?_set_ne (Ne.symm hk)]
    by_cases h2 : k < 68
    · rw [zW_get G _ h2, zW_get G _ h2]
      simp [hk]
    · rw [List.getElem?_eq_none (by simp [zW]; omega), List.getElem?_eq_none (by simp [zW]; omega)]
theorem zz_nat : Cond.native arraycopyName ∈ zBIG := zB_t 334 (by decide +kernel) rfl
theorem zz_sta : Cond.static arraycopyName ∈ zBIG := zB_t 333 (by decide +kernel) rfl
theorem zz_ini : Cond.initialized "java/lang/System" ∈ zBIG := zB_t 14 (by decide +kernel) rfl
theorem zz_lnk : Cond.methodLink RX4 34 arraycopyName ∈ zBIG := zB_t 332 (by decide +kernel) rfl
theorem z_acopy {X : zX} {nL : Nat} {cc : ByteArray} {own : String} {Ts : List Cond} {f nw : Nat} {μ : zM} {pc : Nat} {L : List (Nat × zV)} (C : zC X nL cc own Ts f nw) {idx i j n : Nat} (d : decode cc pc = .ok (.invokestatic idx, 3)) (hl0 : Cond.methodLink own idx arraycopyName ∈ zBIG) (hi : i < 68) (hj : j < 68) (hdi : zd i = .inr (.inl n)) (hdj : zd j = .inr (.inl n)) (hn : n ≤ 100) (nz : Int) (hnz : nz = (n : Int)) (hR : 1 ≤ f ∧ 18 ≤ nw) (K : zJ X nL (zcp μ i j nz) (pc + 3) L []) : zJ X nL μ pc L [.inl nz, .inl 0, .inr j, .inl 0, .inr i] := by
  obtain ⟨p, l, e, R, s, m, args, below, meth, c, Q, A, G, cells, slots⟩ := X
  obtain ⟨hx, hb, hml, hown, hts, hbig, hA, hD, hE, hr1, hr2, hr3, hr4⟩ := C
  intro hr H locs ls hP hS hl
  have hgi := zW_get G μ hi
  have hgj := zW_get G μ hj
  rw [hdi] at hgi
  rw [hdj] at hgj
  have e0 : (iI 0).toNatClampNeg = 0 := by decide
  have en : (iI nz).toNatClampNeg = n := by rw [hnz]; exact iI_clamp (n := 101) (by omega) (by omega) (by omega)
  have hz : ∀ z : Int, 0 ≤ z → z < 101 → ¬ iI z < 0 := fun z h1 h2 q => by
    rw [← iI_0, iI_lt ⟨by omega, by omega⟩ ⟨by omega, by omega⟩] at q
    omega
  refine va_copyi (f := fun x => iI (μ i (x : Int))) (g := fun x => iI (μ j (x : Int))) (sp := iI 0) (dp := iI 0) (n := iI nz) (rest := []) hx hb (by rw [hml]; exact hl.1.symm) hown (hts _ (hbig _ hl0)) (hts _ (hbig _ zz_nat)) (hts _ (hbig _ zz_sta)) (hts _ (hbig _ zz_ini)) hE.1 hP (zD_any μ hD) hS i j 0 0 hgi hgj rfl rfl rfl (hz 0 (by omega) (by omega)) (hz 0 (by omega) (by omega)) (hz nz (by omega) (by omega)) (by rw [e0, en]; omega) (by rw [e0, en]; omega) (fun _ _ => rfl) (Nat.le_trans hR.1 hr1) (Nat.le_trans hR.2 hr2) d (fun H1 locs1 hP1 hD1 hS1 => ?_)
  refine K (zcp_R hr i j nz) H1 locs1 ls ?_ hS1 hl
  have e1 : (zW G μ).set j (G.2.2.2 j, .inl (G.2.1, n, .inl (va_cpy (fun x : Nat => iI (μ i (x : Int))) (fun x : Nat => iI (μ j (x : Int))) (iI 0).toNatClampNeg (iI 0).toNatClampNeg (iI nz).toNatClampNeg))) = zW G (zcp μ i j nz) := by
    have e2 := zW_setr G μ hj (fun x => if 0 ≤ x ∧ x < nz then μ i x else μ j x)
    rw [hdj] at e2
    refine Eq.trans ?_ e2
    congr 6
    funext x
    rw [e0, en]
    unfold va_cpy
    by_cases h : x < n
    · rw [if_pos (by omega)]
      show iI (μ i ((0 + (x - 0) : Nat) : Int)) = iI (if 0 ≤ (x : Int) ∧ (x : Int) < nz then μ i (x : Int) else μ j (x : Int))
      rw [if_pos (by omega), Nat.sub_zero, Nat.zero_add]
    · rw [if_neg (by omega)]
      show iI (μ j (x : Int)) = iI (if 0 ≤ (x : Int) ∧ (x : Int) < nz then μ i (x : Int) else μ j (x : Int))
      rw [if_neg (by omega)]
  rw [← e1]
  exact hP1
/-- a set of what is told, elsewhere than at t -/
theorem zT_fr {μ m : zM} {t : Nat} {v : zVw} (h : zT μ t v) (hf : ∀ i, t ≤ i → i < t + 5 → m i = μ i) : zT m t v := by
  unfold zT at h ⊢
  rw [hf t (by omega) (by omega), hf (t + 1) (by omega) (by omega), hf (t + 2) (by omega) (by omega), hf (t + 3) (by omega) (by omega), hf (t + 4) (by omega) (by omega)]
  exact h
/-- one more comes -/
def vOne (v : zVw) (s : Int) : Int := if s = 0 then vL v else 5 + vR v
def vAdd (v : zVw) (s k b : Int) : zVw := (if s = 0 then vL v + 1 else vL v, if s = 0 then vR v else vR v + 1, vS v, vH v, vW v, fun p => if p = vOne v s then k else vK v p, fun p => if p = vOne v s then b else vB v p, fun x y => if x = vOne v s ∨ y = vOne v s then 5 else vA v x y)
def vLike (v : zVw) (a b z : Int) : zVw := (vL v, vR v, vS v, vH v, vW v, vK v, vB v, fun x y => if x = a ∧ y = b then z else vA v x y)
def vOrd (v : zVw) (s h : Int) : zVw := (vL v, vR v, s, h, vW v, vK v, vB v, vA v)
def vLaw (v : zVw) (w : Int) : zVw := (vL v, vR v, vS v, vH v, w, vK v, vB v, vA v)
theorem vAdd_ok {v : zVw} (h : vOK v) {s k b : Int} (hs : (s = 0 ∧ vL v < 5) ∨ (s = 1 ∧ vR v < 5)) (hk : 0 ≤ k ∧ k ≤ 5) (hb : 0 ≤ b ∧ b ≤ 9) : vOK (vAdd v s k b) := by
  obtain ⟨h1, h2, h3, h4, h5, h6, h7⟩ := h
  refine ⟨?_, ?_, h3, h4, h5, fun p p0 p1 => ⟨?_, ?_⟩, fun x y hxy => ?_⟩
  · show 0 ≤ (if s = 0 then vL v + 1 else vL v) ∧ (if s = 0 then vL v + 1 else vL v) ≤ 5
    split <;> omega
  · show 0 ≤ (if s = 0 then vR v else vR v + 1) ∧ (if s = 0 then vR v else vR v + 1) ≤ 5
    split <;> omega
  · show 0 ≤ (if p = vOne v s then k else vK v p) ∧ (if p = vOne v s then k else vK v p) ≤ 5
    have := (h6 p p0 p1).1
    split <;> omega
  · show 0 ≤ (if p = vOne v s then b else vB v p) ∧ (if p = vOne v s then b else vB v p) ≤ 9
    have := (h6 p p0 p1).2
    split <;> omega
  · show 0 ≤ (if x = vOne v s ∨ y = vOne v s then 5 else vA v x y) ∧ (if x = vOne v s ∨ y = vOne v s then 5 else vA v x y) ≤ 9
    have := h7 x y hxy
    split <;> omega
theorem vLike_ok {v : zVw} (h : vOK v) {a b z : Int} (hz : 0 ≤ z ∧ z ≤ 9) : vOK (vLike v a b z) := by
  obtain ⟨h1, h2, h3, h4, h5, h6, h7⟩ := h
  refine ⟨h1, h2, h3, h4, h5, h6, fun x y hxy => ?_⟩
  show 0 ≤ (if x = a ∧ y = b then z else vA v x y) ∧ (if x = a ∧ y = b then z else vA v x y) ≤ 9
  have := h7 x y hxy
  split <;> omega
theorem vOrd_ok {v : zVw} (h : vOK v) {s k : Int} (hs : 1 ≤ s ∧ s ≤ 4) (hk : 0 ≤ k ∧ k ≤ 4) : vOK (vOrd v s k) := by
  obtain ⟨h1, h2, h3, h4, h5, h6, h7⟩ := h
  exact ⟨h1, h2, hs, hk, h5, h6, h7⟩
theorem vLaw_ok {v : zVw} (h : vOK v) {w : Int} (hw : 0 ≤ w ∧ w ≤ 3) : vOK (vLaw v w) := by
  obtain ⟨h1, h2, h3, h4, h5, h6, h7⟩ := h
  exact ⟨h1, h2, h3, h4, hw, h6, h7⟩
theorem zT_like {μ : zM} {t : Nat} {v : zVw} (h : zT μ t v) {a b z : Int} (hab : zU a b) : zT (zs μ (t + 4) (a * 10 + b) z) t (vLike v a b z) := by
  obtain ⟨h1, h2, h3, h4, h5, h6, h7⟩ := h
  refine ⟨?_, ?_, ?_, ?_, ?_, fun p p0 p1 => ?_, fun x y hxy => ?_⟩
  · rw [zs_ne _ _ _ (by omega)]; exact h1
  · rw [zs_ne _ _ _ (by omega)]; exact h2
  · rw [zs_ne _ _ _ (by omega)]; exact h3
  · rw [zs_ne _ _ _ (by omega)]; exact h4
  · rw [zs_ne _ _ _ (by omega)]; exact h5
  · rw [zs_ne _ _ _ (by omega), zs_ne _ _ _ (by omega)]; exact h6 p p0 p1
  · rw [zs_at]
    show _ = if x = a ∧ y = b then z else vA v x y
    by_cases e : x = a ∧ y = b
    · rw [if_pos e, if_pos (by omega)]
    · rw [if_neg e, if_neg (by omega)]; exact h7 x y hxy
theorem zT_law {μ : zM} {t : Nat} {v : zVw} (h : zT μ t v) {w : Int} : zT (zs μ t 6 w) t (vLaw v w) := by
  obtain ⟨h1, h2, h3, h4, h5, h6, h7⟩ := h
  refine ⟨?_, ?_, ?_, ?_, ?_, fun p p0 p1 => ?_, fun x y hxy => ?_⟩
  · rw [zs_ne _ _ _ (by omega)]; exact h1
  · rw [zs_ne _ _ _ (by omega)]; exact h2
  · rw [zs_ne2 _ _ _ (by omega)]; exact h3
  · rw [zs_ne2 _ _ _ (by omega)]; exact h4
  · rw [zs_self]; rfl
  · rw [zs_ne _ _ _ (by omega), zs_ne _ _ _ (by omega)]; exact h6 p p0 p1
  · rw [zs_ne _ _ _ (by omega)]; exact h7 x y hxy
theorem zT_ord {μ : zM} {t : Nat} {v : zVw} (h : zT μ t v) {s k : Int} : zT (zs (zs μ t 4 s) t 5 k) t (vOrd v s k) := by
  obtain ⟨h1, h2, h3, h4, h5, h6, h7⟩ := h
  refine ⟨?_, ?_, ?_, ?_, ?_, fun p p0 p1 => ?_, fun x y hxy => ?_⟩
  · rw [zs_ne _ _ _ (by omega), zs_ne _ _ _ (by omega)]; exact h1
  · rw [zs_ne _ _ _ (by omega), zs_ne _ _ _ (by omega)]; exact h2
  · rw [zs_ne2 _ _ _ (by omega), zs_self]; rfl
  · rw [zs_self]; rfl
  · rw [zs_ne2 _ _ _ (by omega), zs_ne2 _ _ _ (by omega)]; exact h5
  · rw [zs_ne _ _ _ (by omega), zs_ne _ _ _ (by omega), zs_ne _ _ _ (by omega), zs_ne _ _ _ (by omega)]; exact h6 p p0 p1
  · rw [zs_ne _ _ _ (by omega), zs_ne _ _ _ (by omega)]; exact h7 x y hxy
theorem become_T {μ m1 m2 m3 m4 m5 m6 m7 : zM} {t u : Nat} {w : zVw} (ht : zTo t) (hu : zTo u) (hne : t ≠ u) (h : zT μ u w) (e1 : m1 = zcp μ (u + 1) (t + 1) 2) (e2 : m2 = zcp m1 (u + 2) (t + 2) 10) (e3 : m3 = zcp m2 (u + 3) (t + 3) 10) (e4 : m4 = zcp m3 (u + 4) (t + 4) 100) (e5 : m5 = zs m4 t 4 (m4 u 4)) (e6 : m6 = zs m5 t 5 (m5 u 5)) (e7 : m7 = zs m6 t 6 (m6 u 6)) : zT m7 t w ∧ ∀ i, (i < t ∨ t + 5 ≤ i) → m7 i = μ i := by
  have hne' : u + 5 ≤ t ∨ t + 5 ≤ u := by omega
  obtain ⟨h1, h2, h3, h4, h5, h6, h7⟩ := h
  have f1 : ∀ a, a ≠ t + 1 → m1 a = μ a := fun a ha => by rw [e1, zcp_ne _ _ ha]
  have f2 : ∀ a, a ≠ t + 2 → m2 a = m1 a := fun a ha => by rw [e2, zcp_ne _ _ ha]
  have f3 : ∀ a, a ≠ t + 3 → m3 a = m2 a := fun a ha => by rw [e3, zcp_ne _ _ ha]
  have f4 : ∀ a, a ≠ t + 4 → m4 a = m3 a := fun a ha => by rw [e4, zcp_ne _ _ ha]
  have f5 : ∀ a, a ≠ t → m5 a = m4 a := fun a ha => by rw [e5, zs_ne _ _ _ ha]
  have f6 : ∀ a, a ≠ t → m6 a = m5 a := fun a ha => by rw [e6, zs_ne _ _ _ ha]
  have f7 : ∀ a, a ≠ t → m7 a = m6 a := fun a ha => by rw [e7, zs_ne _ _ _ ha]
  have g1 : ∀ x, 0 ≤ x → x < 2 → m7 (t + 1) x = μ (u + 1) x := fun x x0 x1 => by
    rw [f7 _ (by omega), f6 _ (by omega), f5 _ (by omega), f4 _ (by omega), f3 _ (by omega), f2 _ (by omega), e1, zcp_at, if_pos ⟨x0, x1⟩]
  have g2 : ∀ x, 0 ≤ x → x < 10 → m7 (t + 2) x = μ (u + 2) x := fun x x0 x1 => by
    rw [f7 _ (by omega), f6 _ (by omega), f5 _ (by omega), f4 _ (by omega), f3 _ (by omega), e2, zcp_at, if_pos ⟨x0, x1⟩, f1 _ (by omega)]
  have g3 : ∀ x, 0 ≤ x → x < 10 → m7 (t + 3) x = μ (u + 3) x := fun x x0 x1 => by
    rw [f7 _ (by omega), f6 _ (by omega), f5 _ (by omega), f4 _ (by omega), e3, zcp_at, if_pos ⟨x0, x1⟩, f2 _ (by omega), f1 _ (by omega)]
  have g4 : ∀ x, 0 ≤ x → x < 100 → m7 (t + 4) x = μ (u + 4) x := fun x x0 x1 => by
    rw [f7 _ (by omega), f6 _ (by omega), f5 _ (by omega), e4, zcp_at, if_pos ⟨x0, x1⟩, f3 _ (by omega), f2 _ (by omega), f1 _ (by omega)]
  have gu : ∀ x, m4 u x = μ u x := fun x => by rw [f4 _ (by omega), f3 _ (by omega), f2 _ (by omega), f1 _ (by omega)]
  refine ⟨⟨?_, ?_, ?_, ?_, ?_, fun p p0 p1 => ?_, fun a b hab => ?_⟩, fun i hi => ?_⟩
  · rw [g1 0 (by omega) (by omega)]; exact h1
  · rw [g1 1 (by omega) (by omega)]; exact h2
  · rw [e7, zs_ne2 _ _ _ (by omega), e6, zs_ne2 _ _ _ (by omega), e5, zs_self, gu]; exact h3
  · rw [e7, zs_ne2 _ _ _ (by omega), e6, zs_self, f5 _ (by omega), gu]; exact h4
  · rw [e7, zs_self, f6 _ (by omega), f5 _ (by omega), gu]; exact h5
  · rw [g2 p p0 p1, g3 p p0 p1]; exact h6 p p0 p1
  · rw [g4 _ (by omega) (by omega)]; exact h7 a b hab
  · rw [f7 _ (by omega), f6 _ (by omega), f5 _ (by omega), f4 _ (by omega), f3 _ (by omega), f2 _ (by omega), f1 _ (by omega)]
theorem vAdd_T {μ m1 m2 m0 m : zM} {t : Nat} {v : zVw} {s k b i : Int} (h : zT μ t v) (ho : vOK v) (hs : s = 0 ∨ s = 1) (h5 : μ (t + 1) s < 5) (hi : 10 ≤ i) (e1 : m1 = zs μ (t + 1) s (μ (t + 1) s + 1)) (e2 : m2 = zs m1 (t + 2) (s * 5 + μ (t + 1) s) k) (e3 : m0 = zs m2 (t + 3) (s * 5 + μ (t + 1) s) b) (hf : ∀ a, a ≠ t + 4 → m a = m0 a) (hc : ∀ x y, 0 ≤ x → x < 10 → 0 ≤ y → y < 10 → m (t + 4) (x * 10 + y) = if (x = s * 5 + μ (t + 1) s ∧ y < i) ∨ (y = s * 5 + μ (t + 1) s ∧ x < i) then 5 else m0 (t + 4) (x * 10 + y)) : zT m t (vAdd v s k b) ∧ ∀ a, (a < t ∨ t + 5 ≤ a) → m a = μ a := by
  obtain ⟨h1, h2, h3, h4, h5', h6, h7⟩ := h
  obtain ⟨o1, o2, -⟩ := ho
  have hone : s * 5 + μ (t + 1) s = vOne v s := by
    unfold vOne
    rcases hs with rfl | rfl
    · rw [if_pos rfl]; omega
    · rw [if_neg (by omega)]; omega
  have hr : 0 ≤ vOne v s ∧ vOne v s < 10 := by
    rw [← hone]
    rcases hs with rfl | rfl <;> omega
  rw [hone] at e2 e3 hc
  refine ⟨⟨?_, ?_, ?_, ?_, ?_, fun p p0 p1 => ⟨?_, ?_⟩, fun x y hxy => ?_⟩, fun a ha => ?_⟩
  · rw [hf _ (by omega), e3, zs_ne _ _ _ (by omega), e2, zs_ne _ _ _ (by omega), e1, zs_at]
    show _ = if s = 0 then vL v + 1 else vL v
    rcases hs with rfl | rfl
    · rw [if_pos rfl, if_pos rfl, h1]
    · rw [if_neg (by omega), if_neg (by omega), h1]
  · rw [hf _ (by omega), e3, zs_ne _ _ _ (by omega), e2, zs_ne _ _ _ (by omega), e1, zs_at]
    show _ = if s = 0 then vR v else vR v + 1
    rcases hs with rfl | rfl
    · rw [if_neg (by omega), if_pos rfl, h2]
    · rw [if_pos rfl, if_neg (by omega), h2]
  · rw [hf _ (by omega), e3, zs_ne _ _ _ (by omega), e2, zs_ne _ _ _ (by omega), e1, zs_ne _ _ _ (by omega)]; exact h3
  · rw [hf _ (by omega), e3, zs_ne _ _ _ (by omega), e2, zs_ne _ _ _ (by omega), e1, zs_ne _ _ _ (by omega)]; exact h4
  · rw [hf _ (by omega), e3, zs_ne _ _ _ (by omega), e2, zs_ne _ _ _ (by omega), e1, zs_ne _ _ _ (by omega)]; exact h5'
  · rw [hf _ (by omega), e3, zs_ne _ _ _ (by omega), e2, zs_at, e1, zs_ne _ _ _ (by omega), (h6 p p0 p1).1]; rfl
  · rw [hf _ (by omega), e3, zs_at, e2, zs_ne _ _ _ (by omega), e1, zs_ne _ _ _ (by omega), (h6 p p0 p1).2]; rfl
  · rw [hc x y (by omega) (by omega) (by omega) (by omega), e3, zs_ne _ _ _ (by omega), e2, zs_ne _ _ _ (by omega), e1, zs_ne _ _ _ (by omega)]
    show _ = if x = vOne v s ∨ y = vOne v s then 5 else vA v x y
    by_cases q : x = vOne v s ∨ y = vOne v s
    · rw [if_pos q, if_pos (by omega)]
    · rw [if_neg q, if_neg (by omega)]; exact h7 x y hxy
  · rw [hf _ (by omega), e3, zs_ne _ _ _ (by omega), e2, zs_ne _ _ _ (by omega), e1, zs_ne _ _ _ (by omega)]
