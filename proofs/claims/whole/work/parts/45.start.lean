/-! the start: the world that the constructors leave, as numbers -/
def zM0 : zM := fun i j => if (i = 1 ∨ i = 6 ∨ i = 11) ∧ j = 4 then 1 else if i = 31 ∧ (j = 2 ∨ j = 29) then 1 else 0
theorem zM0_0 {i : Nat} (h : i ≠ 1 ∧ i ≠ 6 ∧ i ≠ 11 ∧ i ≠ 31) (j : Int) : zM0 i j = 0 := by
  unfold zM0
  rw [if_neg (by omega), if_neg (by omega)]
theorem zM0_R : zRM zM0 := fun i j => by
  unfold zM0
  split
  · omega
  · split <;> omega
def zPl : List Nat := [0, 1, 2, 3, 4, 5, 6, 7, 8, 9, 10, 11, 12, 13, 14, 15, 16, 17, 18, 19, 30, 41, 42, 43, 44, 45, 46, 47, 48, 49, 50, 51, 52, 53, 54, 55, 56, 57, 58, 59, 60, 61, 62, 63, 64, 65, 66, 67, 20, 21, 22, 23, 24, 25, 26, 27, 28, 29, 31, 32, 33, 34, 35, 36, 37, 38, 39, 40]
def zCe (h5 : Nat) (u5 : Nat → Nat) (h6 : Nat) (u6 : Nat → Nat) : List Nat := [h5, (u5 0), (u5 1), (u5 2), (u5 3), (u5 4), (u5 5), (u5 6), (u5 7), (u5 8), (u5 9), (u5 10), (u5 11), (u5 12), (u5 13), (u5 14), (u5 15), (u5 16), (u5 17), (u5 18), (u5 29), (u5 40), (u5 41), (u5 42), (u5 43), (u5 44), (u5 45), (u5 46), (u5 47), (u5 48), (u5 49), h6, (u6 0), (u6 1), (u6 2), (u6 3), (u6 4), (u6 5), (u6 6), (u6 7), (u6 8), (u6 9), (u6 10), (u6 11), (u6 12), (u6 13), (u6 14), (u6 15), (u5 19), (u5 20), (u5 21), (u5 22), (u5 23), (u5 24), (u5 25), (u5 26), (u5 27), (u5 28), (u5 30), (u5 31), (u5 32), (u5 33), (u5 34), (u5 35), (u5 36), (u5 37), (u5 38), (u5 39)]
def zAd (h5 : Nat) (u5 : Nat → Nat) (h6 : Nat) (u6 : Nat → Nat) (b : Nat) (adK adV : Nat → Nat) : Nat → Nat := fun k => if k < 68 then (zCe h5 u5 h6 u6).getD k 0 else if k = 69 then b else if k < 80 then adK (k - 70) else adV (k - 80)
theorem arrV_cg {c : ClassId} {N : Nat} {f g : Nat → Value} (h : ∀ j, j < N → f j = g j) : arrV c N f = arrV c N g := by
  unfold arrV
  congr 1
  exact congrArg _ (funext fun j => h j.val j.isLt)
def zOne (G : zG) (ws : va_W) (H : Heap) (k : Nat) : Prop := ∃ e, ws[zPl.getD k 0]? = some (G.2.2.2 k, e) ∧ va_at G.1 vwCl (G.2.2.2 k, zc G (zd k) (zM0 k)) H
theorem zOne_a {G : zG} {ws : va_W} {H : Heap} {k n : Nat} (hP : va_P G.1 vwCl ws H) (hd : zd k = .inr (.inl n)) (hk : k ≠ 1 ∧ k ≠ 6 ∧ k ≠ 11 ∧ k ≠ 31) (he : ws[zPl.getD k 0]? = some (G.2.2.2 k, .inl (G.2.1, n, .inl (fun _ => 0)))) : zOne G ws H k := by
  refine ⟨_, he, ?_⟩
  have h := hP _ _ he
  rw [hd]
  show va_at G.1 vwCl (G.2.2.2 k, .inl (G.2.1, n, .inl (fun j => iI (zM0 k (j : Int))))) H
  rw [show (fun j : Nat => iI (zM0 k (j : Int))) = (fun _ => 0) from funext fun j => by rw [zM0_0 hk, iI_0]]
  exact h
theorem zOne_g {G : zG} {ws : va_W} {H : Heap} {k n b : Nat} {f : Nat → Option Nat} (hP : va_P G.1 vwCl ws H) (hd : zd k = .inr (.inr (n, b))) (he : ws[zPl.getD k 0]? = some (G.2.2.2 k, .inl (G.2.2.1, n, .inr (.inr (.inr (.inr f)))))) (hf : ∀ j, j < n → f j = some (G.2.2.2 (b + j))) : zOne G ws H k := by
  refine ⟨_, he, ?_⟩
  have h := hP _ _ he
  rw [hd]
  have h1 : H[G.2.2.2 k]? = some (arrV G.2.2.1 n (fun j => va_rf (f j))) := h
  show H[G.2.2.2 k]? = some (arrV G.2.2.1 n (fun j => va_rf (some (G.2.2.2 (b + j)))))
  rw [h1]
  congr 1
  exact arrV_cg fun j hj => by rw [hf j hj]
theorem zOne_o {G : zG} {ws : va_W} {H : Heap} {k ci : Nat} {ks : List (Option Nat)} {fs : List Value} (hP : va_P G.1 vwCl ws H) (hd : zd k = .inl (ci, ks)) (he : ws[zPl.getD k 0]? = some (G.2.2.2 k, .inr (ci, fs))) (hf : zfs G (zM0 k) ks 0 = fs) : zOne G ws H k := by
  refine ⟨_, he, ?_⟩
  have h := hP _ _ he
  rw [hd]
  show va_at G.1 vwCl (G.2.2.2 k, .inr (ci, zfs G (zM0 k) ks 0)) H
  rw [hf]
  exact h
section ZST
variable {g : nG} {h5 h6 b : Nat} {u5 u6 adK adV : Nat → Nat} {H : Heap}
set_option maxRecDepth 20000 in
theorem zst_0 (hP : va_P g.1 vwCl (([] ++ nB5 g h5 u5) ++ nB6 g h6 u6) H) : zOne (g.1, g.2.1, g.2.2, zAd h5 u5 h6 u6 b adK adV) (([] ++ nB5 g h5 u5) ++ nB6 g h6 u6) H 0 :=
  zOne_o hP rfl rfl (by
    show ([.ref (u5 0), .ref (u5 5), .ref (u5 10), .int (iI (zM0 0 3)), .ref (u5 15), .ref (u5 17), .ref (u5 41), .ref (u5 46), .ref (u5 48), .int (iI (zM0 0 9)), .ref (u5 49)] : List Value) = _
    rw [show iI (zM0 0 3) = 0 by decide, show iI (zM0 0 9) = 0 by decide])
set_option maxRecDepth 20000 in
theorem zst_1 (hP : va_P g.1 vwCl (([] ++ nB5 g h5 u5) ++ nB6 g h6 u6) H) : zOne (g.1, g.2.1, g.2.2, zAd h5 u5 h6 u6 b adK adV) (([] ++ nB5 g h5 u5) ++ nB6 g h6 u6) H 1 :=
  zOne_o hP rfl rfl (by
    show ([.ref (u5 1), .ref (u5 2), .ref (u5 3), .ref (u5 4), .int (iI (zM0 1 4)), .int (iI (zM0 1 5)), .int (iI (zM0 1 6))] : List Value) = _
    rw [show iI (zM0 1 4) = 1 by decide, show iI (zM0 1 5) = 0 by decide, show iI (zM0 1 6) = 0 by decide])
set_option maxRecDepth 20000 in
theorem zst_2 (hP : va_P g.1 vwCl (([] ++ nB5 g h5 u5) ++ nB6 g h6 u6) H) : zOne (g.1, g.2.1, g.2.2, zAd h5 u5 h6 u6 b adK adV) (([] ++ nB5 g h5 u5) ++ nB6 g h6 u6) H 2 :=
  zOne_a hP rfl (by decide) rfl
set_option maxRecDepth 20000 in
theorem zst_3 (hP : va_P g.1 vwCl (([] ++ nB5 g h5 u5) ++ nB6 g h6 u6) H) : zOne (g.1, g.2.1, g.2.2, zAd h5 u5 h6 u6 b adK adV) (([] ++ nB5 g h5 u5) ++ nB6 g h6 u6) H 3 :=
  zOne_a hP rfl (by decide) rfl
set_option maxRecDepth 20000 in
theorem zst_4 (hP : va_P g.1 vwCl (([] ++ nB5 g h5 u5) ++ nB6 g h6 u6) H) : zOne (g.1, g.2.1, g.2.2, zAd h5 u5 h6 u6 b adK adV) (([] ++ nB5 g h5 u5) ++ nB6 g h6 u6) H 4 :=
  zOne_a hP rfl (by decide) rfl
set_option maxRecDepth 20000 in
theorem zst_5 (hP : va_P g.1 vwCl (([] ++ nB5 g h5 u5) ++ nB6 g h6 u6) H) : zOne (g.1, g.2.1, g.2.2, zAd h5 u5 h6 u6 b adK adV) (([] ++ nB5 g h5 u5) ++ nB6 g h6 u6) H 5 :=
  zOne_a hP rfl (by decide) rfl
set_option maxRecDepth 20000 in
theorem zst_6 (hP : va_P g.1 vwCl (([] ++ nB5 g h5 u5) ++ nB6 g h6 u6) H) : zOne (g.1, g.2.1, g.2.2, zAd h5 u5 h6 u6 b adK adV) (([] ++ nB5 g h5 u5) ++ nB6 g h6 u6) H 6 :=
  zOne_o hP rfl rfl (by
    show ([.ref (u5 6), .ref (u5 7), .ref (u5 8), .ref (u5 9), .int (iI (zM0 6 4)), .int (iI (zM0 6 5)), .int (iI (zM0 6 6))] : List Value) = _
    rw [show iI (zM0 6 4) = 1 by decide, show iI (zM0 6 5) = 0 by decide, show iI (zM0 6 6) = 0 by decide])
set_option maxRecDepth 20000 in
theorem zst_7 (hP : va_P g.1 vwCl (([] ++ nB5 g h5 u5) ++ nB6 g h6 u6) H) : zOne (g.1, g.2.1, g.2.2, zAd h5 u5 h6 u6 b adK adV) (([] ++ nB5 g h5 u5) ++ nB6 g h6 u6) H 7 :=
  zOne_a hP rfl (by decide) rfl
set_option maxRecDepth 20000 in
theorem zst_8 (hP : va_P g.1 vwCl (([] ++ nB5 g h5 u5) ++ nB6 g h6 u6) H) : zOne (g.1, g.2.1, g.2.2, zAd h5 u5 h6 u6 b adK adV) (([] ++ nB5 g h5 u5) ++ nB6 g h6 u6) H 8 :=
  zOne_a hP rfl (by decide) rfl
set_option maxRecDepth 20000 in
theorem zst_9 (hP : va_P g.1 vwCl (([] ++ nB5 g h5 u5) ++ nB6 g h6 u6) H) : zOne (g.1, g.2.1, g.2.2, zAd h5 u5 h6 u6 b adK adV) (([] ++ nB5 g h5 u5) ++ nB6 g h6 u6) H 9 :=
  zOne_a hP rfl (by decide) rfl
set_option maxRecDepth 20000 in
theorem zst_10 (hP : va_P g.1 vwCl (([] ++ nB5 g h5 u5) ++ nB6 g h6 u6) H) : zOne (g.1, g.2.1, g.2.2, zAd h5 u5 h6 u6 b adK adV) (([] ++ nB5 g h5 u5) ++ nB6 g h6 u6) H 10 :=
  zOne_a hP rfl (by decide) rfl
set_option maxRecDepth 20000 in
theorem zst_11 (hP : va_P g.1 vwCl (([] ++ nB5 g h5 u5) ++ nB6 g h6 u6) H) : zOne (g.1, g.2.1, g.2.2, zAd h5 u5 h6 u6 b adK adV) (([] ++ nB5 g h5 u5) ++ nB6 g h6 u6) H 11 :=
  zOne_o hP rfl rfl (by
    show ([.ref (u5 11), .ref (u5 12), .ref (u5 13), .ref (u5 14), .int (iI (zM0 11 4)), .int (iI (zM0 11 5)), .int (iI (zM0 11 6))] : List Value) = _
    rw [show iI (zM0 11 4) = 1 by decide, show iI (zM0 11 5) = 0 by decide, show iI (zM0 11 6) = 0 by decide])
set_option maxRecDepth 20000 in
theorem zst_12 (hP : va_P g.1 vwCl (([] ++ nB5 g h5 u5) ++ nB6 g h6 u6) H) : zOne (g.1, g.2.1, g.2.2, zAd h5 u5 h6 u6 b adK adV) (([] ++ nB5 g h5 u5) ++ nB6 g h6 u6) H 12 :=
  zOne_a hP rfl (by decide) rfl
set_option maxRecDepth 20000 in
theorem zst_13 (hP : va_P g.1 vwCl (([] ++ nB5 g h5 u5) ++ nB6 g h6 u6) H) : zOne (g.1, g.2.1, g.2.2, zAd h5 u5 h6 u6 b adK adV) (([] ++ nB5 g h5 u5) ++ nB6 g h6 u6) H 13 :=
  zOne_a hP rfl (by decide) rfl
set_option maxRecDepth 20000 in
theorem zst_14 (hP : va_P g.1 vwCl (([] ++ nB5 g h5 u5) ++ nB6 g h6 u6) H) : zOne (g.1, g.2.1, g.2.2, zAd h5 u5 h6 u6 b adK adV) (([] ++ nB5 g h5 u5) ++ nB6 g h6 u6) H 14 :=
  zOne_a hP rfl (by decide) rfl
set_option maxRecDepth 20000 in
theorem zst_15 (hP : va_P g.1 vwCl (([] ++ nB5 g h5 u5) ++ nB6 g h6 u6) H) : zOne (g.1, g.2.1, g.2.2, zAd h5 u5 h6 u6 b adK adV) (([] ++ nB5 g h5 u5) ++ nB6 g h6 u6) H 15 :=
  zOne_a hP rfl (by decide) rfl
set_option maxRecDepth 20000 in
theorem zst_16 (hP : va_P g.1 vwCl (([] ++ nB5 g h5 u5) ++ nB6 g h6 u6) H) : zOne (g.1, g.2.1, g.2.2, zAd h5 u5 h6 u6 b adK adV) (([] ++ nB5 g h5 u5) ++ nB6 g h6 u6) H 16 :=
  zOne_o hP rfl rfl (by
    show ([.ref (u5 16), .int (iI (zM0 16 1))] : List Value) = _
    rw [show iI (zM0 16 1) = 0 by decide])
set_option maxRecDepth 20000 in
theorem zst_17 (hP : va_P g.1 vwCl (([] ++ nB5 g h5 u5) ++ nB6 g h6 u6) H) : zOne (g.1, g.2.1, g.2.2, zAd h5 u5 h6 u6 b adK adV) (([] ++ nB5 g h5 u5) ++ nB6 g h6 u6) H 17 :=
  zOne_a hP rfl (by decide) rfl
set_option maxRecDepth 20000 in
theorem zst_18 (hP : va_P g.1 vwCl (([] ++ nB5 g h5 u5) ++ nB6 g h6 u6) H) : zOne (g.1, g.2.1, g.2.2, zAd h5 u5 h6 u6 b adK adV) (([] ++ nB5 g h5 u5) ++ nB6 g h6 u6) H 18 :=
  zOne_o hP rfl rfl (by
    show ([.ref (u5 18), .ref (u5 29), .ref (u5 40), .int (iI (zM0 18 3)), .int (iI (zM0 18 4))] : List Value) = _
    rw [show iI (zM0 18 3) = 0 by decide, show iI (zM0 18 4) = 0 by decide])
set_option maxRecDepth 20000 in
theorem zst_19 (hP : va_P g.1 vwCl (([] ++ nB5 g h5 u5) ++ nB6 g h6 u6) H) : zOne (g.1, g.2.1, g.2.2, zAd h5 u5 h6 u6 b adK adV) (([] ++ nB5 g h5 u5) ++ nB6 g h6 u6) H 19 :=
  zOne_g hP rfl rfl (fun j hj => by
    rcases (by omega : j = 0 ∨ j = 1 ∨ j = 2 ∨ j = 3 ∨ j = 4 ∨ j = 5 ∨ j = 6 ∨ j = 7 ∨ j = 8 ∨ j = 9) with rfl | rfl | rfl | rfl | rfl | rfl | rfl | rfl | rfl | rfl <;> rfl)
set_option maxRecDepth 20000 in
theorem zst_20 (hP : va_P g.1 vwCl (([] ++ nB5 g h5 u5) ++ nB6 g h6 u6) H) : zOne (g.1, g.2.1, g.2.2, zAd h5 u5 h6 u6 b adK adV) (([] ++ nB5 g h5 u5) ++ nB6 g h6 u6) H 20 :=
  zOne_g hP rfl rfl (fun j hj => by
    rcases (by omega : j = 0 ∨ j = 1 ∨ j = 2 ∨ j = 3 ∨ j = 4 ∨ j = 5 ∨ j = 6 ∨ j = 7 ∨ j = 8 ∨ j = 9) with rfl | rfl | rfl | rfl | rfl | rfl | rfl | rfl | rfl | rfl <;> rfl)
set_option maxRecDepth 20000 in
theorem zst_21 (hP : va_P g.1 vwCl (([] ++ nB5 g h5 u5) ++ nB6 g h6 u6) H) : zOne (g.1, g.2.1, g.2.2, zAd h5 u5 h6 u6 b adK adV) (([] ++ nB5 g h5 u5) ++ nB6 g h6 u6) H 21 :=
  zOne_a hP rfl (by decide) rfl
set_option maxRecDepth 20000 in
theorem zst_22 (hP : va_P g.1 vwCl (([] ++ nB5 g h5 u5) ++ nB6 g h6 u6) H) : zOne (g.1, g.2.1, g.2.2, zAd h5 u5 h6 u6 b adK adV) (([] ++ nB5 g h5 u5) ++ nB6 g h6 u6) H 22 :=
  zOne_o hP rfl rfl (by
    show ([.ref (u5 42), .ref (u5 43), .ref (u5 44), .ref (u5 45)] : List Value) = _
    rfl)
set_option maxRecDepth 20000 in
theorem zst_23 (hP : va_P g.1 vwCl (([] ++ nB5 g h5 u5) ++ nB6 g h6 u6) H) : zOne (g.1, g.2.1, g.2.2, zAd h5 u5 h6 u6 b adK adV) (([] ++ nB5 g h5 u5) ++ nB6 g h6 u6) H 23 :=
  zOne_a hP rfl (by decide) rfl
set_option maxRecDepth 20000 in
theorem zst_24 (hP : va_P g.1 vwCl (([] ++ nB5 g h5 u5) ++ nB6 g h6 u6) H) : zOne (g.1, g.2.1, g.2.2, zAd h5 u5 h6 u6 b adK adV) (([] ++ nB5 g h5 u5) ++ nB6 g h6 u6) H 24 :=
  zOne_a hP rfl (by decide) rfl
set_option maxRecDepth 20000 in
theorem zst_25 (hP : va_P g.1 vwCl (([] ++ nB5 g h5 u5) ++ nB6 g h6 u6) H) : zOne (g.1, g.2.1, g.2.2, zAd h5 u5 h6 u6 b adK adV) (([] ++ nB5 g h5 u5) ++ nB6 g h6 u6) H 25 :=
  zOne_a hP rfl (by decide) rfl
set_option maxRecDepth 20000 in
theorem zst_26 (hP : va_P g.1 vwCl (([] ++ nB5 g h5 u5) ++ nB6 g h6 u6) H) : zOne (g.1, g.2.1, g.2.2, zAd h5 u5 h6 u6 b adK adV) (([] ++ nB5 g h5 u5) ++ nB6 g h6 u6) H 26 :=
  zOne_a hP rfl (by decide) rfl
set_option maxRecDepth 20000 in
theorem zst_27 (hP : va_P g.1 vwCl (([] ++ nB5 g h5 u5) ++ nB6 g h6 u6) H) : zOne (g.1, g.2.1, g.2.2, zAd h5 u5 h6 u6 b adK adV) (([] ++ nB5 g h5 u5) ++ nB6 g h6 u6) H 27 :=
  zOne_o hP rfl rfl (by
    show ([.ref (u5 47)] : List Value) = _
    rfl)
set_option maxRecDepth 20000 in
theorem zst_28 (hP : va_P g.1 vwCl (([] ++ nB5 g h5 u5) ++ nB6 g h6 u6) H) : zOne (g.1, g.2.1, g.2.2, zAd h5 u5 h6 u6 b adK adV) (([] ++ nB5 g h5 u5) ++ nB6 g h6 u6) H 28 :=
  zOne_a hP rfl (by decide) rfl
set_option maxRecDepth 20000 in
theorem zst_29 (hP : va_P g.1 vwCl (([] ++ nB5 g h5 u5) ++ nB6 g h6 u6) H) : zOne (g.1, g.2.1, g.2.2, zAd h5 u5 h6 u6 b adK adV) (([] ++ nB5 g h5 u5) ++ nB6 g h6 u6) H 29 :=
  zOne_a hP rfl (by decide) rfl
set_option maxRecDepth 20000 in
theorem zst_30 (hP : va_P g.1 vwCl (([] ++ nB5 g h5 u5) ++ nB6 g h6 u6) H) : zOne (g.1, g.2.1, g.2.2, zAd h5 u5 h6 u6 b adK adV) (([] ++ nB5 g h5 u5) ++ nB6 g h6 u6) H 30 :=
  zOne_a hP rfl (by decide) rfl
set_option maxRecDepth 20000 in
theorem zst_31 (hP : va_P g.1 vwCl (([] ++ nB5 g h5 u5) ++ nB6 g h6 u6) H) : zOne (g.1, g.2.1, g.2.2, zAd h5 u5 h6 u6 b adK adV) (([] ++ nB5 g h5 u5) ++ nB6 g h6 u6) H 31 :=
  zOne_o hP rfl rfl (by
    show ([.int (iI (zM0 31 0)), .int (iI (zM0 31 1)), .int (iI (zM0 31 2)), .int (iI (zM0 31 3)), .int (iI (zM0 31 4)), .int (iI (zM0 31 5)), .int (iI (zM0 31 6)), .ref (u6 0), .ref (u6 1), .ref (u6 2), .ref (u6 3), .ref (u6 4), .ref (u6 5), .int (iI (zM0 31 13)), .int (iI (zM0 31 14)), .int (iI (zM0 31 15)), .int (iI (zM0 31 16)), .int (iI (zM0 31 17)), .ref (u6 6), .ref (u6 7), .ref (u6 8), .ref (u6 9), .ref (u6 10), .ref (u6 11), .int (iI (zM0 31 24)), .ref (u6 12), .int (iI (zM0 31 26)), .int (iI (zM0 31 27)), .int (iI (zM0 31 28)), .int (iI (zM0 31 29)), .int (iI (zM0 31 30)), .int (iI (zM0 31 31)), .ref (u6 13), .ref (u6 14), .ref (u6 15)] : List Value) = _
    rw [show iI (zM0 31 0) = 0 by decide, show iI (zM0 31 1) = 0 by decide, show iI (zM0 31 2) = 1 by decide, show iI (zM0 31 3) = 0 by decide, show iI (zM0 31 4) = 0 by decide, show iI (zM0 31 5) = 0 by decide, show iI (zM0 31 6) = 0 by decide, show iI (zM0 31 13) = 0 by decide, show iI (zM0 31 14) = 0 by decide, show iI (zM0 31 15) = 0 by decide, show iI (zM0 31 16) = 0 by decide, show iI (zM0 31 17) = 0 by decide, show iI (zM0 31 24) = 0 by decide, show iI (zM0 31 26) = 0 by decide, show iI (zM0 31 27) = 0 by decide, show iI (zM0 31 28) = 0 by decide, show iI (zM0 31 29) = 1 by decide, show iI (zM0 31 30) = 0 by decide, show iI (zM0 31 31) = 0 by decide])
set_option maxRecDepth 20000 in
theorem zst_32 (hP : va_P g.1 vwCl (([] ++ nB5 g h5 u5) ++ nB6 g h6 u6) H) : zOne (g.1, g.2.1, g.2.2, zAd h5 u5 h6 u6 b adK adV) (([] ++ nB5 g h5 u5) ++ nB6 g h6 u6) H 32 :=
  zOne_a hP rfl (by decide) rfl
set_option maxRecDepth 20000 in
theorem zst_33 (hP : va_P g.1 vwCl (([] ++ nB5 g h5 u5) ++ nB6 g h6 u6) H) : zOne (g.1, g.2.1, g.2.2, zAd h5 u5 h6 u6 b adK adV) (([] ++ nB5 g h5 u5) ++ nB6 g h6 u6) H 33 :=
  zOne_a hP rfl (by decide) rfl
set_option maxRecDepth 20000 in
theorem zst_34 (hP : va_P g.1 vwCl (([] ++ nB5 g h5 u5) ++ nB6 g h6 u6) H) : zOne (g.1, g.2.1, g.2.2, zAd h5 u5 h6 u6 b adK adV) (([] ++ nB5 g h5 u5) ++ nB6 g h6 u6) H 34 :=
  zOne_a hP rfl (by decide) rfl
set_option maxRecDepth 20000 in
theorem zst_35 (hP : va_P g.1 vwCl (([] ++ nB5 g h5 u5) ++ nB6 g h6 u6) H) : zOne (g.1, g.2.1, g.2.2, zAd h5 u5 h6 u6 b adK adV) (([] ++ nB5 g h5 u5) ++ nB6 g h6 u6) H 35 :=
  zOne_a hP rfl (by decide) rfl
set_option maxRecDepth 20000 in
theorem zst_36 (hP : va_P g.1 vwCl (([] ++ nB5 g h5 u5) ++ nB6 g h6 u6) H) : zOne (g.1, g.2.1, g.2.2, zAd h5 u5 h6 u6 b adK adV) (([] ++ nB5 g h5 u5) ++ nB6 g h6 u6) H 36 :=
  zOne_a hP rfl (by decide) rfl
set_option maxRecDepth 20000 in
theorem zst_37 (hP : va_P g.1 vwCl (([] ++ nB5 g h5 u5) ++ nB6 g h6 u6) H) : zOne (g.1, g.2.1, g.2.2, zAd h5 u5 h6 u6 b adK adV) (([] ++ nB5 g h5 u5) ++ nB6 g h6 u6) H 37 :=
  zOne_a hP rfl (by decide) rfl
set_option maxRecDepth 20000 in
theorem zst_38 (hP : va_P g.1 vwCl (([] ++ nB5 g h5 u5) ++ nB6 g h6 u6) H) : zOne (g.1, g.2.1, g.2.2, zAd h5 u5 h6 u6 b adK adV) (([] ++ nB5 g h5 u5) ++ nB6 g h6 u6) H 38 :=
  zOne_a hP rfl (by decide) rfl
set_option maxRecDepth 20000 in
theorem zst_39 (hP : va_P g.1 vwCl (([] ++ nB5 g h5 u5) ++ nB6 g h6 u6) H) : zOne (g.1, g.2.1, g.2.2, zAd h5 u5 h6 u6 b adK adV) (([] ++ nB5 g h5 u5) ++ nB6 g h6 u6) H 39 :=
  zOne_a hP rfl (by decide) rfl
set_option maxRecDepth 20000 in
theorem zst_40 (hP : va_P g.1 vwCl (([] ++ nB5 g h5 u5) ++ nB6 g h6 u6) H) : zOne (g.1, g.2.1, g.2.2, zAd h5 u5 h6 u6 b adK adV) (([] ++ nB5 g h5 u5) ++ nB6 g h6 u6) H 40 :=
  zOne_a hP rfl (by decide) rfl
set_option maxRecDepth 20000 in
theorem zst_41 (hP : va_P g.1 vwCl (([] ++ nB5 g h5 u5) ++ nB6 g h6 u6) H) : zOne (g.1, g.2.1, g.2.2, zAd h5 u5 h6 u6 b adK adV) (([] ++ nB5 g h5 u5) ++ nB6 g h6 u6) H 41 :=
  zOne_a hP rfl (by decide) rfl
set_option maxRecDepth 20000 in
theorem zst_42 (hP : va_P g.1 vwCl (([] ++ nB5 g h5 u5) ++ nB6 g h6 u6) H) : zOne (g.1, g.2.1, g.2.2, zAd h5 u5 h6 u6 b adK adV) (([] ++ nB5 g h5 u5) ++ nB6 g h6 u6) H 42 :=
  zOne_a hP rfl (by decide) rfl
set_option maxRecDepth 20000 in
theorem zst_43 (hP : va_P g.1 vwCl (([] ++ nB5 g h5 u5) ++ nB6 g h6 u6) H) : zOne (g.1, g.2.1, g.2.2, zAd h5 u5 h6 u6 b adK adV) (([] ++ nB5 g h5 u5) ++ nB6 g h6 u6) H 43 :=
  zOne_a hP rfl (by decide) rfl
set_option maxRecDepth 20000 in
theorem zst_44 (hP : va_P g.1 vwCl (([] ++ nB5 g h5 u5) ++ nB6 g h6 u6) H) : zOne (g.1, g.2.1, g.2.2, zAd h5 u5 h6 u6 b adK adV) (([] ++ nB5 g h5 u5) ++ nB6 g h6 u6) H 44 :=
  zOne_a hP rfl (by decide) rfl
set_option maxRecDepth 20000 in
theorem zst_45 (hP : va_P g.1 vwCl (([] ++ nB5 g h5 u5) ++ nB6 g h6 u6) H) : zOne (g.1, g.2.1, g.2.2, zAd h5 u5 h6 u6 b adK adV) (([] ++ nB5 g h5 u5) ++ nB6 g h6 u6) H 45 :=
  zOne_a hP rfl (by decide) rfl
set_option maxRecDepth 20000 in
theorem zst_46 (hP : va_P g.1 vwCl (([] ++ nB5 g h5 u5) ++ nB6 g h6 u6) H) : zOne (g.1, g.2.1, g.2.2, zAd h5 u5 h6 u6 b adK adV) (([] ++ nB5 g h5 u5) ++ nB6 g h6 u6) H 46 :=
  zOne_a hP rfl (by decide) rfl
set_option maxRecDepth 20000 in
theorem zst_47 (hP : va_P g.1 vwCl (([] ++ nB5 g h5 u5) ++ nB6 g h6 u6) H) : zOne (g.1, g.2.1, g.2.2, zAd h5 u5 h6 u6 b adK adV) (([] ++ nB5 g h5 u5) ++ nB6 g h6 u6) H 47 :=
  zOne_a hP rfl (by decide) rfl
set_option maxRecDepth 20000 in
theorem zst_48 (hP : va_P g.1 vwCl (([] ++ nB5 g h5 u5) ++ nB6 g h6 u6) H) : zOne (g.1, g.2.1, g.2.2, zAd h5 u5 h6 u6 b adK adV) (([] ++ nB5 g h5 u5) ++ nB6 g h6 u6) H 48 :=
  zOne_a hP rfl (by decide) rfl
set_option maxRecDepth 20000 in
theorem zst_49 (hP : va_P g.1 vwCl (([] ++ nB5 g h5 u5) ++ nB6 g h6 u6) H) : zOne (g.1, g.2.1, g.2.2, zAd h5 u5 h6 u6 b adK adV) (([] ++ nB5 g h5 u5) ++ nB6 g h6 u6) H 49 :=
  zOne_a hP rfl (by decide) rfl
set_option maxRecDepth 20000 in
theorem zst_50 (hP : va_P g.1 vwCl (([] ++ nB5 g h5 u5) ++ nB6 g h6 u6) H) : zOne (g.1, g.2.1, g.2.2, zAd h5 u5 h6 u6 b adK adV) (([] ++ nB5 g h5 u5) ++ nB6 g h6 u6) H 50 :=
  zOne_a hP rfl (by decide) rfl
set_option maxRecDepth 20000 in
theorem zst_51 (hP : va_P g.1 vwCl (([] ++ nB5 g h5 u5) ++ nB6 g h6 u6) H) : zOne (g.1, g.2.1, g.2.2, zAd h5 u5 h6 u6 b adK adV) (([] ++ nB5 g h5 u5) ++ nB6 g h6 u6) H 51 :=
  zOne_a hP rfl (by decide) rfl
set_option maxRecDepth 20000 in
theorem zst_52 (hP : va_P g.1 vwCl (([] ++ nB5 g h5 u5) ++ nB6 g h6 u6) H) : zOne (g.1, g.2.1, g.2.2, zAd h5 u5 h6 u6 b adK adV) (([] ++ nB5 g h5 u5) ++ nB6 g h6 u6) H 52 :=
  zOne_a hP rfl (by decide) rfl
set_option maxRecDepth 20000 in
theorem zst_53 (hP : va_P g.1 vwCl (([] ++ nB5 g h5 u5) ++ nB6 g h6 u6) H) : zOne (g.1, g.2.1, g.2.2, zAd h5 u5 h6 u6 b adK adV) (([] ++ nB5 g h5 u5) ++ nB6 g h6 u6) H 53 :=
  zOne_a hP rfl (by decide) rfl
set_option maxRecDepth 20000 in
theorem zst_54 (hP : va_P g.1 vwCl (([] ++ nB5 g h5 u5) ++ nB6 g h6 u6) H) : zOne (g.1, g.2.1, g.2.2, zAd h5 u5 h6 u6 b adK adV) (([] ++ nB5 g h5 u5) ++ nB6 g h6 u6) H 54 :=
  zOne_a hP rfl (by decide) rfl
set_option maxRecDepth 20000 in
theorem zst_55 (hP : va_P g.1 vwCl (([] ++ nB5 g h5 u5) ++ nB6 g h6 u6) H) : zOne (g.1, g.2.1, g.2.2, zAd h5 u5 h6 u6 b adK adV) (([] ++ nB5 g h5 u5) ++ nB6 g h6 u6) H 55 :=
  zOne_a hP rfl (by decide) rfl
set_option maxRecDepth 20000 in
theorem zst_56 (hP : va_P g.1 vwCl (([] ++ nB5 g h5 u5) ++ nB6 g h6 u6) H) : zOne (g.1, g.2.1, g.2.2, zAd h5 u5 h6 u6 b adK adV) (([] ++ nB5 g h5 u5) ++ nB6 g h6 u6) H 56 :=
  zOne_a hP rfl (by decide) rfl
set_option maxRecDepth 20000 in
theorem zst_57 (hP : va_P g.1 vwCl (([] ++ nB5 g h5 u5) ++ nB6 g h6 u6) H) : zOne (g.1, g.2.1, g.2.2, zAd h5 u5 h6 u6 b adK adV) (([] ++ nB5 g h5 u5) ++ nB6 g h6 u6) H 57 :=
  zOne_a hP rfl (by decide) rfl
set_option maxRecDepth 20000 in
theorem zst_58 (hP : va_P g.1 vwCl (([] ++ nB5 g h5 u5) ++ nB6 g h6 u6) H) : zOne (g.1, g.2.1, g.2.2, zAd h5 u5 h6 u6 b adK adV) (([] ++ nB5 g h5 u5) ++ nB6 g h6 u6) H 58 :=
  zOne_a hP rfl (by decide) rfl
set_option maxRecDepth 20000 in
theorem zst_59 (hP : va_P g.1 vwCl (([] ++ nB5 g h5 u5) ++ nB6 g h6 u6) H) : zOne (g.1, g.2.1, g.2.2, zAd h5 u5 h6 u6 b adK adV) (([] ++ nB5 g h5 u5) ++ nB6 g h6 u6) H 59 :=
  zOne_a hP rfl (by decide) rfl
set_option maxRecDepth 20000 in
theorem zst_60 (hP : va_P g.1 vwCl (([] ++ nB5 g h5 u5) ++ nB6 g h6 u6) H) : zOne (g.1, g.2.1, g.2.2, zAd h5 u5 h6 u6 b adK adV) (([] ++ nB5 g h5 u5) ++ nB6 g h6 u6) H 60 :=
  zOne_a hP rfl (by decide) rfl
set_option maxRecDepth 20000 in
theorem zst_61 (hP : va_P g.1 vwCl (([] ++ nB5 g h5 u5) ++ nB6 g h6 u6) H) : zOne (g.1, g.2.1, g.2.2, zAd h5 u5 h6 u6 b adK adV) (([] ++ nB5 g h5 u5) ++ nB6 g h6 u6) H 61 :=
  zOne_a hP rfl (by decide) rfl
set_option maxRecDepth 20000 in
theorem zst_62 (hP : va_P g.1 vwCl (([] ++ nB5 g h5 u5) ++ nB6 g h6 u6) H) : zOne (g.1, g.2.1, g.2.2, zAd h5 u5 h6 u6 b adK adV) (([] ++ nB5 g h5 u5) ++ nB6 g h6 u6) H 62 :=
  zOne_a hP rfl (by decide) rfl
set_option maxRecDepth 20000 in
theorem zst_63 (hP : va_P g.1 vwCl (([] ++ nB5 g h5 u5) ++ nB6 g h6 u6) H) : zOne (g.1, g.2.1, g.2.2, zAd h5 u5 h6 u6 b adK adV) (([] ++ nB5 g h5 u5) ++ nB6 g h6 u6) H 63 :=
  zOne_a hP rfl (by decide) rfl
set_option maxRecDepth 20000 in
theorem zst_64 (hP : va_P g.1 vwCl (([] ++ nB5 g h5 u5) ++ nB6 g h6 u6) H) : zOne (g.1, g.2.1, g.2.2, zAd h5 u5 h6 u6 b adK adV) (([] ++ nB5 g h5 u5) ++ nB6 g h6 u6) H 64 :=
  zOne_a hP rfl (by decide) rfl
set_option maxRecDepth 20000 in
theorem zst_65 (hP : va_P g.1 vwCl (([] ++ nB5 g h5 u5) ++ nB6 g h6 u6) H) : zOne (g.1, g.2.1, g.2.2, zAd h5 u5 h6 u6 b adK adV) (([] ++ nB5 g h5 u5) ++ nB6 g h6 u6) H 65 :=
  zOne_a hP rfl (by decide) rfl
set_option maxRecDepth 20000 in
theorem zst_66 (hP : va_P g.1 vwCl (([] ++ nB5 g h5 u5) ++ nB6 g h6 u6) H) : zOne (g.1, g.2.1, g.2.2, zAd h5 u5 h6 u6 b adK adV) (([] ++ nB5 g h5 u5) ++ nB6 g h6 u6) H 66 :=
  zOne_a hP rfl (by decide) rfl
set_option maxRecDepth 20000 in
theorem zst_67 (hP : va_P g.1 vwCl (([] ++ nB5 g h5 u5) ++ nB6 g h6 u6) H) : zOne (g.1, g.2.1, g.2.2, zAd h5 u5 h6 u6 b adK adV) (([] ++ nB5 g h5 u5) ++ nB6 g h6 u6) H 67 :=
  zOne_a hP rfl (by decide) rfl
theorem zst_all (hP : va_P g.1 vwCl (([] ++ nB5 g h5 u5) ++ nB6 g h6 u6) H) : ∀ k : Nat, k < 68 → zOne (g.1, g.2.1, g.2.2, zAd h5 u5 h6 u6 b adK adV) (([] ++ nB5 g h5 u5) ++ nB6 g h6 u6) H k := by
  have h : ∀ k ∈ ([0, 1, 2, 3, 4, 5, 6, 7, 8, 9, 10, 11, 12, 13, 14, 15, 16, 17, 18, 19, 20, 21, 22, 23, 24, 25, 26, 27, 28, 29, 30, 31, 32, 33, 34, 35, 36, 37, 38, 39, 40, 41, 42, 43, 44, 45, 46, 47, 48, 49, 50, 51, 52, 53, 54, 55, 56, 57, 58, 59, 60, 61, 62, 63, 64, 65, 66, 67] : List Nat), zOne (g.1, g.2.1, g.2.2, zAd h5 u5 h6 u6 b adK adV) (([] ++ nB5 g h5 u5) ++ nB6 g h6 u6) H k := List.forall_mem_cons.mpr ⟨zst_0 hP, List.forall_mem_cons.mpr ⟨zst_1 hP, List.forall_mem_cons.mpr ⟨zst_2 hP, List.forall_mem_cons.mpr ⟨zst_3 hP, List.forall_mem_cons.mpr ⟨zst_4 hP, List.forall_mem_cons.mpr ⟨zst_5 hP, List.forall_mem_cons.mpr ⟨zst_6 hP, List.forall_mem_cons.mpr ⟨zst_7 hP, List.forall_mem_cons.mpr ⟨zst_8 hP, List.forall_mem_cons.mpr ⟨zst_9 hP, List.forall_mem_cons.mpr ⟨zst_10 hP, List.forall_mem_cons.mpr ⟨zst_11 hP, List.forall_mem_cons.mpr ⟨zst_12 hP, List.forall_mem_cons.mpr ⟨zst_13 hP, List.forall_mem_cons.mpr ⟨zst_14 hP, List.forall_mem_cons.mpr ⟨zst_15 hP, List.forall_mem_cons.mpr ⟨zst_16 hP, List.forall_mem_cons.mpr ⟨zst_17 hP, List.forall_mem_cons.mpr ⟨zst_18 hP, List.forall_mem_cons.mpr ⟨zst_19 hP, List.forall_mem_cons.mpr ⟨zst_20 hP, List.forall_mem_cons.mpr ⟨zst_21 hP, List.forall_mem_cons.mpr ⟨zst_22 hP, List.forall_mem_cons.mpr ⟨zst_23 hP, List.forall_mem_cons.mpr ⟨zst_24 hP, List.forall_mem_cons.mpr ⟨zst_25 hP, List.forall_mem_cons.mpr ⟨zst_26 hP, List.forall_mem_cons.mpr ⟨zst_27 hP, List.forall_mem_cons.mpr ⟨zst_28 hP, List.forall_mem_cons.mpr ⟨zst_29 hP, List.forall_mem_cons.mpr ⟨zst_30 hP, List.forall_mem_cons.mpr ⟨zst_31 hP, List.forall_mem_cons.mpr ⟨zst_32 hP, List.forall_mem_cons.mpr ⟨zst_33 hP, List.forall_mem_cons.mpr ⟨zst_34 hP, List.forall_mem_cons.mpr ⟨zst_35 hP, List.forall_mem_cons.mpr ⟨zst_36 hP, List.forall_mem_cons.mpr ⟨zst_37 hP, List.forall_mem_cons.mpr ⟨zst_38 hP, List.forall_mem_cons.mpr ⟨zst_39 hP, List.forall_mem_cons.mpr ⟨zst_40 hP, List.forall_mem_cons.mpr ⟨zst_41 hP, List.forall_mem_cons.mpr ⟨zst_42 hP, List.forall_mem_cons.mpr ⟨zst_43 hP, List.forall_mem_cons.mpr ⟨zst_44 hP, List.forall_mem_cons.mpr ⟨zst_45 hP, List.forall_mem_cons.mpr ⟨zst_46 hP, List.forall_mem_cons.mpr ⟨zst_47 hP, List.forall_mem_cons.mpr ⟨zst_48 hP, List.forall_mem_cons.mpr ⟨zst_49 hP, List.forall_mem_cons.mpr ⟨zst_50 hP, List.forall_mem_cons.mpr ⟨zst_51 hP, List.forall_mem_cons.mpr ⟨zst_52 hP, List.forall_mem_cons.mpr ⟨zst_53 hP, List.forall_mem_cons.mpr ⟨zst_54 hP, List.forall_mem_cons.mpr ⟨zst_55 hP, List.forall_mem_cons.mpr ⟨zst_56 hP, List.forall_mem_cons.mpr ⟨zst_57 hP, List.forall_mem_cons.mpr ⟨zst_58 hP, List.forall_mem_cons.mpr ⟨zst_59 hP, List.forall_mem_cons.mpr ⟨zst_60 hP, List.forall_mem_cons.mpr ⟨zst_61 hP, List.forall_mem_cons.mpr ⟨zst_62 hP, List.forall_mem_cons.mpr ⟨zst_63 hP, List.forall_mem_cons.mpr ⟨zst_64 hP, List.forall_mem_cons.mpr ⟨zst_65 hP, List.forall_mem_cons.mpr ⟨zst_66 hP, List.forall_mem_cons.mpr ⟨zst_67 hP, fun _ h => absurd h List.not_mem_nil⟩⟩⟩⟩⟩⟩⟩⟩⟩⟩⟩⟩⟩⟩⟩⟩⟩⟩⟩⟩⟩⟩⟩⟩⟩⟩⟩⟩⟩⟩⟩⟩⟩⟩⟩⟩⟩⟩⟩⟩⟩⟩⟩⟩⟩⟩⟩⟩⟩⟩⟩⟩⟩⟩⟩⟩⟩⟩⟩⟩⟩⟩⟩⟩⟩⟩⟩⟩
  have e : List.range 68 = [0, 1, 2, 3, 4, 5, 6, 7, 8, 9, 10, 11, 12, 13, 14, 15, 16, 17, 18, 19, 20, 21, 22, 23, 24, 25, 26, 27, 28, 29, 30, 31, 32, 33, 34, 35, 36, 37, 38, 39, 40, 41, 42, 43, 44, 45, 46, 47, 48, 49, 50, 51, 52, 53, 54, 55, 56, 57, 58, 59, 60, 61, 62, 63, 64, 65, 66, 67] := by decide
  exact fun k hk => h k (by rw [← e]; exact List.mem_range.mpr hk)
theorem zst_P (hP : va_P g.1 vwCl (([] ++ nB5 g h5 u5) ++ nB6 g h6 u6) H) : va_P g.1 vwCl (zW (g.1, g.2.1, g.2.2, zAd h5 u5 h6 u6 b adK adV) zM0) H := fun k q hq => by
  obtain ⟨hk, rfl⟩ := zW_mem hq
  obtain ⟨e, -, h⟩ := zst_all (b := b) (adK := adK) (adV := adV) hP k hk
  exact h
theorem zPl_inj : ∀ i ∈ List.range 68, ∀ j ∈ List.range 68, zPl.getD i 0 = zPl.getD j 0 → i = j := by decide +kernel
theorem zst_D {A : Nat → Prop} (hD : va_D A (([] ++ nB5 g h5 u5) ++ nB6 g h6 u6)) (hP : va_P g.1 vwCl (([] ++ nB5 g h5 u5) ++ nB6 g h6 u6) H) (μ : zM) : va_D A (zW (g.1, g.2.1, g.2.2, zAd h5 u5 h6 u6 b adK adV) μ) := by
  refine ⟨fun i j p q hp hq hpq => ?_, fun k q hq => ?_⟩
  · obtain ⟨hi, rfl⟩ := zW_mem hp
    obtain ⟨hj, rfl⟩ := zW_mem hq
    obtain ⟨e1, a1, -⟩ := zst_all (b := b) (adK := adK) (adV := adV) hP i hi
    obtain ⟨e2, a2, -⟩ := zst_all (b := b) (adK := adK) (adV := adV) hP j hj
    exact zPl_inj i (List.mem_range.mpr hi) j (List.mem_range.mpr hj) (hD.1 _ _ _ _ a1 a2 hpq)
  · obtain ⟨hi, rfl⟩ := zW_mem hq
    obtain ⟨e1, a1, -⟩ := zst_all (b := b) (adK := adK) (adV := adV) hP k hi
    have h9 := hD.2 _ _ a1
    exact h9
end ZST
/-- the state at the start -/
def zV0 : zVw := (0, 0, 1, 0, 0, fun _ => 0, fun _ => 0, fun _ _ => 0)
def zS0 : zS := (zV0, 0, zV0, fun _ => 0, 0, fun _ => 0, 0, fun _ => 0)
theorem zV0_ok : vOK zV0 := by
  refine ⟨?_, ?_, ?_, ?_, ?_, fun p _ _ => ⟨?_, ?_⟩, fun a b _ => ?_⟩
  · show (0 : Int) ≤ 0 ∧ (0 : Int) ≤ 5; omega
  · show (0 : Int) ≤ 0 ∧ (0 : Int) ≤ 5; omega
  · show (1 : Int) ≤ 1 ∧ (1 : Int) ≤ 4; omega
  · show (0 : Int) ≤ 0 ∧ (0 : Int) ≤ 4; omega
  · show (0 : Int) ≤ 0 ∧ (0 : Int) ≤ 3; omega
  · show (0 : Int) ≤ 0 ∧ (0 : Int) ≤ 5; omega
  · show (0 : Int) ≤ 0 ∧ (0 : Int) ≤ 9; omega
  · show (0 : Int) ≤ 0 ∧ (0 : Int) ≤ 9; omega
theorem zS0_ok : sOK zS0 := by
  refine ⟨zV0_ok, Or.inl rfl, zV0_ok, ?_, fun i i0 i1 => ?_, ?_, fun i i0 i1 => ?_⟩
  · show (0 : Int) ≤ 0 ∧ (0 : Int) ≤ 96; omega
  · have i2 : i < 0 := i1
    omega
  · show (0 : Int) ≤ 0 ∧ (0 : Int) ≤ 10; omega
  · have i2 : i < 0 := i1
    omega
theorem zM0_T {t : Nat} (h : t = 1 ∨ t = 6 ∨ t = 11) : zT zM0 t zV0 := by
  refine ⟨?_, ?_, ?_, ?_, ?_, fun p _ _ => ⟨?_, ?_⟩, fun a b _ => ?_⟩
  · exact zM0_0 (by omega) _
  · exact zM0_0 (by omega) _
  · show zM0 t 4 = 1
    unfold zM0
    rw [if_pos ⟨h, rfl⟩]
  · show zM0 t 5 = 0
    unfold zM0
    rw [if_neg (by omega), if_neg (by omega)]
  · show zM0 t 6 = 0
    unfold zM0
    rw [if_neg (by omega), if_neg (by omega)]
  · exact zM0_0 (by omega) _
  · exact zM0_0 (by omega) _
  · exact zM0_0 (by omega) _
theorem zM0_Cl : zCl zM0 zS0 := by
  refine ⟨zM0_T (Or.inl rfl), zM0_0 (by decide) _, zM0_T (Or.inr (Or.inr rfl)), ⟨zM0_0 (by decide) _, ?_, fun i i0 i1 => ?_⟩, zM0_0 (by decide) _, fun i _ _ => zM0_0 (by decide) _, fun i _ _ => zM0_0 (by decide) _⟩
  · show (0 : Int) ≤ 0 ∧ (0 : Int) ≤ 96; omega
  · have i2 : i < 0 := i1
    omega
theorem zM0_Rf : zRf zM0 zS0 := by
  have h31 : ∀ j : Int, zM0 31 j = if j = 2 ∨ j = 29 then 1 else 0 := fun j => by
    unfold zM0
    rw [if_neg (by omega)]
    by_cases e : j = 2 ∨ j = 29
    · rw [if_pos ⟨rfl, e⟩, if_pos e]
    · rw [if_neg (fun z => e z.2), if_neg e]
  refine ⟨⟨?_, ?_, ?_, ?_, ?_, fun p _ _ => ⟨zM0_0 (by decide) _, zM0_0 (by decide) _⟩, fun a b _ => zM0_0 (by decide) _⟩, ?_, ⟨?_, ?_, ?_, ?_, ?_, fun p _ _ => ⟨zM0_0 (by decide) _, zM0_0 (by decide) _⟩, fun a b _ => zM0_0 (by decide) _⟩, ⟨?_, ?_, fun i i0 i1 => ?_⟩, ?_, fun i _ _ => zM0_0 (by decide) _, fun i _ _ => zM0_0 (by decide) _⟩
  · rw [h31]; rfl
  · rw [h31]; rfl
  · rw [h31]; rfl
  · rw [h31]; rfl
  · rw [h31]; rfl
  · rw [h31]; rfl
  · rw [h31]; rfl
  · rw [h31]; rfl
  · rw [h31]; rfl
  · rw [h31]; rfl
  · rw [h31]; rfl
  · rw [h31]; rfl
  · show (0 : Int) ≤ 0 ∧ (0 : Int) ≤ 96; omega
  · have i2 : i < 0 := i1
    omega
  · rw [h31]; rfl
