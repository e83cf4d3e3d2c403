/-! the state of both sides, as numbers: what is told; is an image kept; the image; the letters, how many; the row, how many; the refusals -/
abbrev zS : Type := zVw × Int × zVw × (Int → Int) × Int × (Int → Int) × Int × (Int → Int)
def gV (s : zS) : zVw := s.1
def gK (s : zS) : Int := s.2.1
def gI (s : zS) : zVw := s.2.2.1
def gT (s : zS) : Int → Int := s.2.2.2.1
def gN (s : zS) : Int := s.2.2.2.2.1
def gW (s : zS) : Int → Int := s.2.2.2.2.2.1
def gM (s : zS) : Int := s.2.2.2.2.2.2.1
def gF (s : zS) : Int → Int := s.2.2.2.2.2.2.2
def pV (s : zS) (v : zVw) : zS := (v, gK s, gI s, gT s, gN s, gW s, gM s, gF s)
def pI (s : zS) (w : zVw) : zS := (gV s, 1, w, gT s, gN s, gW s, gM s, gF s)
def pT (s : zS) (c : Int) : zS := (gV s, gK s, gI s, fun i => if i = gN s then c else gT s i, gN s + 1, gW s, gM s, gF s)
def pN (s : zS) : zS := (gV s, gK s, gI s, gT s, 0, gW s, gM s, gF s)
def pR (s : zS) (z : Int) : zS := (gV s, gK s, gI s, gT s, gN s, fun i => if i = gM s then z else gW s i, gM s + 1, gF s)
def pM (s : zS) : zS := (gV s, gK s, gI s, gT s, gN s, gW s, 0, gF s)
def pF (s : zS) (k : Int) : zS := (gV s, gK s, gI s, gT s, gN s, gW s, gM s, fun i => if i = k then zw (gF s k + 1) else gF s i)
def sOK (s : zS) : Prop := vOK (gV s) ∧ (gK s = 0 ∨ gK s = 1) ∧ vOK (gI s) ∧ (0 ≤ gN s ∧ gN s ≤ 96) ∧ (∀ i, 0 ≤ i → i < gN s → 0 ≤ gT s i ∧ gT s i ≤ 255) ∧ (0 ≤ gM s ∧ gM s ≤ 10) ∧ (∀ i, 0 ≤ i → i < gM s → 0 ≤ gW s i ∧ gW s i ≤ 31)
theorem sOK_V {s : zS} (h : sOK s) {v : zVw} (hv : vOK v) : sOK (pV s v) := by
  obtain ⟨h1, h2, h3, h4, h5, h6, h7⟩ := h
  exact ⟨hv, h2, h3, h4, h5, h6, h7⟩
theorem sOK_I {s : zS} (h : sOK s) {v : zVw} (hv : vOK v) : sOK (pI s v) := by
  obtain ⟨h1, h2, h3, h4, h5, h6, h7⟩ := h
  exact ⟨h1, Or.inr rfl, hv, h4, h5, h6, h7⟩
theorem sOK_T {s : zS} (h : sOK s) {c : Int} (hc : 0 ≤ c ∧ c ≤ 255) (hn : gN s < 96) : sOK (pT s c) := by
  obtain ⟨h1, h2, h3, h4, h5, h6, h7⟩ := h
  refine ⟨h1, h2, h3, ?_, fun i i0 i1 => ?_, h6, h7⟩
  · show 0 ≤ gN s + 1 ∧ gN s + 1 ≤ 96
    omega
  · show 0 ≤ (if i = gN s then c else gT s i) ∧ (if i = gN s then c else gT s i) ≤ 255
    by_cases e : i = gN s
    · rw [if_pos e]; exact hc
    · rw [if_neg e]
      have i2 : i < gN s + 1 := i1
      exact h5 i i0 (by omega)
theorem sOK_N {s : zS} (h : sOK s) : sOK (pN s) := by
  obtain ⟨h1, h2, h3, h4, h5, h6, h7⟩ := h
  refine ⟨h1, h2, h3, ?_, fun i i0 i1 => ?_, h6, h7⟩
  · show (0 : Int) ≤ 0 ∧ (0 : Int) ≤ 96
    omega
  · have i2 : i < 0 := i1
    omega
theorem sOK_R {s : zS} (h : sOK s) {z : Int} (hz : 0 ≤ z ∧ z ≤ 31) (hn : gM s < 10) : sOK (pR s z) := by
  obtain ⟨h1, h2, h3, h4, h5, h6, h7⟩ := h
  refine ⟨h1, h2, h3, h4, h5, ?_, fun i i0 i1 => ?_⟩
  · show 0 ≤ gM s + 1 ∧ gM s + 1 ≤ 10
    omega
  · show 0 ≤ (if i = gM s then z else gW s i) ∧ (if i = gM s then z else gW s i) ≤ 31
    by_cases e : i = gM s
    · rw [if_pos e]; exact hz
    · rw [if_neg e]
      have i2 : i < gM s + 1 := i1
      exact h7 i i0 (by omega)
theorem sOK_M {s : zS} (h : sOK s) : sOK (pM s) := by
  obtain ⟨h1, h2, h3, h4, h5, h6, h7⟩ := h
  refine ⟨h1, h2, h3, h4, h5, ?_, fun i i0 i1 => ?_⟩
  · show (0 : Int) ≤ 0 ∧ (0 : Int) ≤ 10
    omega
  · have i2 : i < 0 := i1
    omega
theorem sOK_F {s : zS} (h : sOK s) (k : Int) : sOK (pF s k) := h
/-- how the class holds it -/
def zCl (μ : zM) (s : zS) : Prop := zT μ 1 (gV s) ∧ μ 0 3 = gK s ∧ zT μ 11 (gI s) ∧ zLt μ (gT s) (gN s) ∧ μ 0 9 = gM s ∧ (∀ i, 0 ≤ i → i < gM s → μ 29 i = gW s i) ∧ (∀ i, 1 ≤ i → i ≤ 6 → μ 30 i = gF s i)
theorem zCl_fr {μ m : zM} {s : zS} (h : zCl μ s) (hf : ∀ a, (a < 6 ∨ (11 ≤ a ∧ a < 18) ∨ a = 29 ∨ a = 30) → m a = μ a) : zCl m s := by
  obtain ⟨h1, h2, h3, h4, h5, h6, h7⟩ := h
  refine ⟨zT_fr h1 (fun i i0 i1 => hf i (by omega)), ?_, zT_fr h3 (fun i i0 i1 => hf i (by omega)), zLt_fr h4 (hf 16 (by omega)) (hf 17 (by omega)), ?_, ?_, ?_⟩
  · rw [hf 0 (by omega)]; exact h2
  · rw [hf 0 (by omega)]; exact h5
  · rw [hf 29 (by omega)]; exact h6
  · rw [hf 30 (by omega)]; exact h7
theorem zCl_V {μ m : zM} {s : zS} {v : zVw} (h : zCl μ s) (hT : zT m 1 v) (hf : ∀ a, (a = 0 ∨ (11 ≤ a ∧ a < 18) ∨ a = 29 ∨ a = 30) → m a = μ a) : zCl m (pV s v) := by
  obtain ⟨h1, h2, h3, h4, h5, h6, h7⟩ := h
  refine ⟨hT, ?_, zT_fr h3 (fun i i0 i1 => hf i (by omega)), zLt_fr h4 (hf 16 (by omega)) (hf 17 (by omega)), ?_, ?_, ?_⟩
  · rw [hf 0 (by omega)]; exact h2
  · rw [hf 0 (by omega)]; exact h5
  · rw [hf 29 (by omega)]; exact h6
  · rw [hf 30 (by omega)]; exact h7
theorem zCl_I {μ m : zM} {s : zS} {w : zVw} (h : zCl μ s) (hT : zT m 11 w) (e1 : m 0 3 = 1) (e2 : m 0 9 = μ 0 9) (hf : ∀ a, ((1 ≤ a ∧ a < 6) ∨ a = 16 ∨ a = 17 ∨ a = 29 ∨ a = 30) → m a = μ a) : zCl m (pI s w) := by
  obtain ⟨h1, h2, h3, h4, h5, h6, h7⟩ := h
  refine ⟨zT_fr h1 (fun i i0 i1 => hf i (by omega)), e1, hT, zLt_fr h4 (hf 16 (by omega)) (hf 17 (by omega)), ?_, ?_, ?_⟩
  · rw [e2]; exact h5
  · rw [hf 29 (by omega)]; exact h6
  · rw [hf 30 (by omega)]; exact h7
theorem zCl_T {μ : zM} {s : zS} (h : zCl μ s) {c : Int} (hc : 0 ≤ c ∧ c ≤ 255) (hn : gN s < 96) : zCl (zs (zs μ 17 (gN s) c) 16 1 (gN s + 1)) (pT s c) := by
  obtain ⟨h1, h2, h3, ⟨x1, x2, x3⟩, h5, h6, h7⟩ := h
  refine ⟨zT_fr h1 (fun i i0 i1 => ?_), ?_, zT_fr h3 (fun i i0 i1 => ?_), ⟨zs_self _ _ _ _, ?_, fun i i0 i1 => ?_⟩, ?_, ?_, ?_⟩
  · rw [zs_ne _ _ _ (by omega), zs_ne _ _ _ (by omega)]
  · rw [zs_ne _ _ _ (by omega), zs_ne _ _ _ (by omega)]; exact h2
  · rw [zs_ne _ _ _ (by omega), zs_ne _ _ _ (by omega)]
  · show 0 ≤ gN s + 1 ∧ gN s + 1 ≤ 96
    omega
  · rw [zs_ne _ _ _ (by omega), zs_at]
    show (if i = gN s then c else μ 17 i) = (if i = gN s then c else gT s i) ∧ (0 ≤ (if i = gN s then c else gT s i) ∧ (if i = gN s then c else gT s i) ≤ 255)
    by_cases e : i = gN s
    · rw [if_pos e, if_pos e]; exact ⟨rfl, hc⟩
    · rw [if_neg e, if_neg e]
      have i2 : i < gN s + 1 := i1
      exact x3 i i0 (by omega)
  · rw [zs_ne _ _ _ (by omega), zs_ne _ _ _ (by omega)]; exact h5
  · rw [zs_ne _ _ _ (by omega), zs_ne _ _ _ (by omega)]; exact h6
  · rw [zs_ne _ _ _ (by omega), zs_ne _ _ _ (by omega)]; exact h7
theorem zCl_N {μ : zM} {s : zS} (h : zCl μ s) : zCl (zs μ 16 1 0) (pN s) := by
  obtain ⟨h1, h2, h3, ⟨x1, x2, x3⟩, h5, h6, h7⟩ := h
  refine ⟨zT_fr h1 (fun i i0 i1 => ?_), ?_, zT_fr h3 (fun i i0 i1 => ?_), ⟨zs_self _ _ _ _, ?_, fun i i0 i1 => ?_⟩, ?_, ?_, ?_⟩
  · rw [zs_ne _ _ _ (by omega)]
  · rw [zs_ne _ _ _ (by omega)]; exact h2
  · rw [zs_ne _ _ _ (by omega)]
  · show (0 : Int) ≤ 0 ∧ (0 : Int) ≤ 96
    omega
  · have i2 : i < 0 := i1
    omega
  · rw [zs_ne _ _ _ (by omega)]; exact h5
  · rw [zs_ne _ _ _ (by omega)]; exact h6
  · rw [zs_ne _ _ _ (by omega)]; exact h7
theorem zCl_R {μ : zM} {s : zS} (h : zCl μ s) (z : Int) : zCl (zs (zs μ 29 (gM s) z) 0 9 (gM s + 1)) (pR s z) := by
  obtain ⟨h1, h2, h3, h4, h5, h6, h7⟩ := h
  refine ⟨zT_fr h1 (fun i i0 i1 => ?_), ?_, zT_fr h3 (fun i i0 i1 => ?_), zLt_fr h4 ?_ ?_, zs_self _ _ _ _, fun i i0 i1 => ?_, ?_⟩
  · rw [zs_ne _ _ _ (by omega), zs_ne _ _ _ (by omega)]
  · rw [zs_ne2 _ _ _ (by omega), zs_ne _ _ _ (by omega)]; exact h2
  · rw [zs_ne _ _ _ (by omega), zs_ne _ _ _ (by omega)]
  · rw [zs_ne _ _ _ (by omega), zs_ne _ _ _ (by omega)]
  · rw [zs_ne _ _ _ (by omega), zs_ne _ _ _ (by omega)]
  · rw [zs_ne _ _ _ (by omega), zs_at]
    show (if i = gM s then z else μ 29 i) = (if i = gM s then z else gW s i)
    by_cases e : i = gM s
    · rw [if_pos e, if_pos e]
    · rw [if_neg e, if_neg e]
      have i2 : i < gM s + 1 := i1
      exact h6 i i0 (by omega)
  · rw [zs_ne _ _ _ (by omega), zs_ne _ _ _ (by omega)]; exact h7
theorem zCl_M {μ : zM} {s : zS} (h : zCl μ s) : zCl (zs μ 0 9 0) (pM s) := by
  obtain ⟨h1, h2, h3, h4, h5, h6, h7⟩ := h
  refine ⟨zT_fr h1 (fun i i0 i1 => ?_), ?_, zT_fr h3 (fun i i0 i1 => ?_), zLt_fr h4 ?_ ?_, zs_self _ _ _ _, fun i i0 i1 => ?_, ?_⟩
  · rw [zs_ne _ _ _ (by omega)]
  · rw [zs_ne2 _ _ _ (by omega)]; exact h2
  · rw [zs_ne _ _ _ (by omega)]
  · rw [zs_ne _ _ _ (by omega)]
  · rw [zs_ne _ _ _ (by omega)]
  · have i2 : i < 0 := i1
    omega
  · rw [zs_ne _ _ _ (by omega)]; exact h7
theorem zCl_F {μ : zM} {s : zS} (h : zCl μ s) {k : Int} (hk : 1 ≤ k ∧ k ≤ 6) : zCl (zs μ 30 k (zw (μ 30 k + 1))) (pF s k) := by
  obtain ⟨h1, h2, h3, h4, h5, h6, h7⟩ := h
  refine ⟨zT_fr h1 (fun i i0 i1 => ?_), ?_, zT_fr h3 (fun i i0 i1 => ?_), zLt_fr h4 ?_ ?_, ?_, ?_, fun i i0 i1 => ?_⟩
  · rw [zs_ne _ _ _ (by omega)]
  · rw [zs_ne _ _ _ (by omega)]; exact h2
  · rw [zs_ne _ _ _ (by omega)]
  · rw [zs_ne _ _ _ (by omega)]
  · rw [zs_ne _ _ _ (by omega)]
  · rw [zs_ne _ _ _ (by omega)]; exact h5
  · rw [zs_ne _ _ _ (by omega)]; exact h6
  · rw [zs_at]
    show (if i = k then zw (μ 30 k + 1) else μ 30 i) = (if i = k then zw (gF s k + 1) else gF s i)
    rw [h7 k hk.1 hk.2, h7 i i0 i1]
/-! what each call answers, and what is then -/
def tLetter (s : zS) (c : Int) : Int × zS := if c < 0 then (-4, pF s 4) else if 255 < c ∨ 96 ≤ gN s then (-6, pF s 6) else (gN s + 1, pT s c)
def sEv (s : zS) : Int × zVw := sCar (gT s) (gN s) (gN s).toNat 0 (gV s)
def sCnt (s : zS) : Int := zSum (fun i => if gT s i = 59 then 1 else 0) (gN s).toNat
def tEvening (s : zS) : Int × zS := if sBad (gT s) (gN s) = -9 then (if (sEv s).1 = -9 then (sCnt s, pV (pN s) (sEv s).2) else (-2000 - (sEv s).1, pN s)) else (-1000 - sBad (gT s) (gN s), pN s)
def tPerson (s : zS) (p w : Int) : Int × zS := if vTh (gV s) p then (if w = 0 then (vK (gV s) p, s) else if w = 1 then (vB (gV s) p, s) else if w = 2 then (sGap (gV s) p, s) else (-2, pF s 2)) else (-1, pF s 1)
abbrev zTw (v : zVw) (a b : Int) : Prop := vTh v a ∧ vTh v b ∧ zU a b
def tLiking (s : zS) (a b : Int) : Int × zS := if zTw (gV s) a b then (vA (gV s) a b, s) else (-1, pF s 1)
def tLike (s : zS) (a b z : Int) : Int × zS := if zTw (gV s) a b then (if z < 0 then (-4, pF s 4) else if 9 < z then (-6, pF s 6) else (vA (gV s) a b, pV s (vLike (gV s) a b z))) else (-1, pF s 1)
def tOrder (s : zS) (a b : Int) : Int × zS := if a < 1 ∨ b < 0 then (-4, pF s 4) else if 4 < a ∨ 4 < b then (-6, pF s 6) else (10 * vS (gV s) + vH (gV s), pV s (vOrd (gV s) a b))
def tLaw (s : zS) (w : Int) : Int × zS := if 0 ≤ w ∧ w ≤ 3 then (vW (gV s), pV s (vLaw (gV s) w)) else (-2, pF s 2)
def tMeets (s : zS) (p k : Int) : Int × zS := if vTh (gV s) p ∧ 0 ≤ k ∧ k < vN (gV s) then (sPar (gV s) p k, s) else (-1, pF s 1)
def tFelt (s : zS) (p k : Int) : Int × zS := if vTh (gV s) p ∧ 0 ≤ k ∧ k < vN (gV s) then (sFl (gV s) p k, s) else (1000000001, pF s 1)
def tYeses (s : zS) (p w : Int) : Int × zS := if vTh (gV s) p then (if w = 0 then (sSl (gV s) p, s) else if w = 1 then (sToN (gV s) p 5, s) else (-2, pF s 2)) else (-1, pF s 1)
def sPr (v : zVw) (w : Int) : Int := zSum (fun p => sPop (sPb (sVl v w) p)) 5
def tPairs (s : zS) (p : Int) : Int × zS := if p = -1 then (sPr (gV s) (vW (gV s)), s) else if vTh (gV s) p then (sPb (sVl (gV s) (vW (gV s))) p, s) else (-1, pF s 1)
def tGlad (s : zS) (w k : Int) : Int × zS := if (0 ≤ w ∧ w ≤ 3) ∧ 0 ≤ k ∧ k ≤ 1 then (if k = 0 then (sPr (gV s) w, s) else (sGlad (gV s) (sPb (sVl (gV s) w)), s)) else (-2, pF s 2)
def tShaded (s : zS) : Int × zS := (sSh (gV s) 10, s)
def sAlF (v : zVw) : Nat → Bool
  | 0 => true
  | l + 1 => sAlF v l && decide (sMmN v (l : Int) (vN v).toNat = zshl 1 (vR v) - 1)
theorem sAlF_n (v : zVw) : ∀ n : Nat, sAlF v n = true ↔ ∀ l : Int, 0 ≤ l → l < (n : Int) → sMmN v l (vN v).toNat = zshl 1 (vR v) - 1
  | 0 => ⟨fun _ l h0 h1 => by omega, fun _ => rfl⟩
  | n + 1 => by
    rw [sAlF, Bool.and_eq_true, sAlF_n v n, decide_eq_true_iff]
    constructor
    · rintro ⟨h1, h2⟩ l l0 l1
      by_cases e : l = (n : Int)
      · rw [e]; exact h2
      · exact h1 l l0 (by omega)
    · intro h
      exact ⟨fun l l0 l1 => h l l0 (by omega), h n (by omega) (by omega)⟩
def sAlB (v : zVw) : Bool := sAlF v (vL v).toNat
theorem sAlB_t {v : zVw} (ho : vOK v) : sAlB v = true ↔ sAll v := by
  obtain ⟨h1, -⟩ := ho
  unfold sAlB sAll
  rw [sAlF_n]
  constructor
  · exact fun h l l0 l1 => h l l0 (by omega)
  · exact fun h l l0 l1 => h l l0 (by omega)
def sBeH (v : zVw) (st : Int) : Nat → Int × Int → Int × Int
  | 0, x => x
  | h + 1, x => if ((sBeH v st h x).1 = -9 ∨ sSh (vOrd v st (h : Int)) 10 < (sBeH v st h x).2) ∧ sAlB (vOrd v st (h : Int)) = true then (10 * st + (h : Int), sSh (vOrd v st (h : Int)) 10) else sBeH v st h x
theorem sBeH_s (v : zVw) (st : Int) {h : Int} (h0 : 0 ≤ h) (x : Int × Int) : sBeH v st (h + 1).toNat x = if ((sBeH v st h.toNat x).1 = -9 ∨ sSh (vOrd v st h) 10 < (sBeH v st h.toNat x).2) ∧ sAlB (vOrd v st h) = true then (10 * st + h, sSh (vOrd v st h) 10) else sBeH v st h.toNat x := by
  rw [show (h + 1).toNat = h.toNat + 1 by omega, sBeH, Int.toNat_of_nonneg h0]
/-- the orders with steps from 1 on, so many of them -/
def sBeS (v : zVw) : Nat → Int × Int
  | 0 => (-9, 0)
  | k + 1 => sBeH v ((k : Int) + 1) 5 (sBeS v k)
theorem sBeS_s (v : zVw) {k : Int} (h : 0 ≤ k) : sBeS v (k + 1).toNat = sBeH v (k + 1) 5 (sBeS v k.toNat) := by
  rw [show (k + 1).toNat = k.toNat + 1 by omega, sBeS, Int.toNat_of_nonneg h]
def tBest (s : zS) : Int × zS := ((sBeS (gV s) 4).1, s)
def tGot (s : zS) (p k : Int) : Int × zS := if vTh (gV s) p then ((sIt (gV s) (sIn (gV s) k) 25).1 p, s) else (-1, pF s 1)
def tFirm (s : zS) : Int × zS := (sFirm (gV s), s)
def tRow (s : zS) (z : Int) : Int × zS := if z < 0 then (-4, pF s 4) else if 31 < z ∨ 10 ≤ gM s then (-6, pF s 6) else (gM s + 1, pR s z)
/-- the row put into holding, the first so many left ones -/
def sHr (v : zVw) (w : Int → Int) : Nat → Bool × (Int → Int)
  | 0 => (true, fun _ => -9)
  | l + 1 => if (sHr v w l).1 = true then (if w (l : Int) = 9 then sHr v w l else if w (l : Int) < vR v ∧ (sHr v w l).2 (5 + w (l : Int)) = -9 then (true, fun x => if x = 5 + w (l : Int) then (l : Int) else if x = (l : Int) then 5 + w (l : Int) else (sHr v w l).2 x) else (false, (sHr v w l).2)) else (false, (sHr v w l).2)
theorem sHr_s (v : zVw) (w : Int → Int) {l : Int} (h : 0 ≤ l) : sHr v w (l + 1).toNat = if (sHr v w l.toNat).1 = true then (if w l = 9 then sHr v w l.toNat else if w l < vR v ∧ (sHr v w l.toNat).2 (5 + w l) = -9 then (true, fun x => if x = 5 + w l then l else if x = l then 5 + w l else (sHr v w l.toNat).2 x) else (false, (sHr v w l.toNat).2)) else (false, (sHr v w l.toNat).2) := by
  rw [show (l + 1).toNat = l.toNat + 1 by omega, sHr, Int.toNat_of_nonneg h]
theorem sHr_no (v : zVw) (w : Int → Int) {k : Nat} (h : (sHr v w k).1 = false) : ∀ n, (sHr v w (k + n)).1 = false
  | 0 => h
  | n + 1 => by
    rw [show k + (n + 1) = (k + n) + 1 by omega, sHr, if_neg (by rw [sHr_no v w h n]; intro q; cases q)]
theorem sHr_b {v : zVw} (ho : vOK v) {w : Int → Int} {n : Int} (hw : ∀ i, 0 ≤ i → i < n → 0 ≤ w i ∧ w i ≤ 31) : ∀ k : Nat, (k : Int) ≤ n → (k : Int) ≤ vL v → zHb (sHr v w k).2
  | 0, _, _ => fun p _ _ => Or.inl rfl
  | k + 1, h1, h2 => by
    have ih := sHr_b ho hw k (by omega) (by omega)
    have hwk := hw k (by omega) (by omega)
    obtain ⟨o1, o2, -⟩ := ho
    rw [sHr]
    split
    · split
      · exact ih
      · split
        · rename_i hc
          intro p p0 p1
          show (if p = 5 + w (k : Int) then (k : Int) else if p = (k : Int) then 5 + w (k : Int) else (sHr v w k).2 p) = -9 ∨ zU p (if p = 5 + w (k : Int) then (k : Int) else if p = (k : Int) then 5 + w (k : Int) else (sHr v w k).2 p)
          split
          · right; omega
          · split
            · right; omega
            · exact ih p p0 p1
        · exact ih
    · exact ih
def tRather (s : zS) : Int × zS := if gM s = vL (gV s) ∧ (sHr (gV s) (gW s) (vL (gV s)).toNat).1 = true then (sFw (gV s) (sHr (gV s) (gW s) (vL (gV s)).toNat).2, s) else (-3, pF s 3)
def sTrN (v : zVw) (a b : Int) : Nat → Int
  | 0 => 0
  | z + 1 => if ((¬ zand (sSl (vLike v a b (z : Int)) a) (zbit b) = 0) ↔ (¬ zand (sSl v a) (zbit b) = 0)) then zor (sTrN v a b z) (zshl 1 (z : Int)) else sTrN v a b z
theorem sTrN_s (v : zVw) (a b : Int) {z : Int} (h : 0 ≤ z) : sTrN v a b (z + 1).toNat = if ((¬ zand (sSl (vLike v a b z) a) (zbit b) = 0) ↔ (¬ zand (sSl v a) (zbit b) = 0)) then zor (sTrN v a b z.toNat) (zshl 1 z) else sTrN v a b z.toNat := by
  rw [show (z + 1).toNat = z.toNat + 1 by omega, sTrN, Int.toNat_of_nonneg h]
def tTruly (s : zS) (a b : Int) : Int × zS := if zTw (gV s) a b then (sTrN (gV s) a b 10, s) else (-1, pF s 1)
def sNth (v : zVw) (i : Int) : Int := if i < vL v then i else 5 + i - vL v
def sJdF (v : zVw) (w : Int → Int) (n : Int) : Nat → Int → Int
  | 0, _ => 0
  | f + 1, i => if i < n ∧ i < vL v + vR v then (if w i = sSl v (sNth v i) then sJdF v w n f (i + 1) else i) else (if n = vL v + vR v then -9 else if n ≤ vL v + vR v then n else vL v + vR v)
def sJd (v : zVw) (w : Int → Int) (n : Int) : Int := sJdF v w n 11 0
theorem sJdF_s (v : zVw) (w : Int → Int) (n : Int) {i : Int} (h : i ≤ 10) : sJdF v w n (11 - i).toNat i = if i < n ∧ i < vL v + vR v then (if w i = sSl v (sNth v i) then sJdF v w n (11 - (i + 1)).toNat (i + 1) else i) else (if n = vL v + vR v then -9 else if n ≤ vL v + vR v then n else vL v + vR v) := by
  rw [show (11 - i).toNat = (11 - (i + 1)).toNat + 1 by omega, sJdF]
def tJudge (s : zS) : Int × zS := (sJd (gV s) (gW s) (gM s), pM s)
def tClear (s : zS) : Int × zS := (gM s, pM s)
/-- draws: the sum, the seed, the likings after so many -/
def sLo (v : zVw) (z : Int) : Nat → Int × Int × zVw
  | 0 => (0, z, v)
  | i + 1 => ((sLo v z i).1 + sPr (sDa (sLo v z i).2.2 10 ((sLo v z i).2.1, (sLo v z i).2.2)).2 (vW v), (sDa (sLo v z i).2.2 10 ((sLo v z i).2.1, (sLo v z i).2.2)).1, (sDa (sLo v z i).2.2 10 ((sLo v z i).2.1, (sLo v z i).2.2)).2)
theorem sLo_s (v : zVw) (z : Int) {i : Int} (h : 0 ≤ i) : sLo v z (i + 1).toNat = ((sLo v z i.toNat).1 + sPr (sDa (sLo v z i.toNat).2.2 10 ((sLo v z i.toNat).2.1, (sLo v z i.toNat).2.2)).2 (vW v), (sDa (sLo v z i.toNat).2.2 10 ((sLo v z i.toNat).2.1, (sLo v z i.toNat).2.2)).1, (sDa (sLo v z i.toNat).2.2 10 ((sLo v z i.toNat).2.1, (sLo v z i.toNat).2.2)).2) := by
  rw [show (i + 1).toNat = i.toNat + 1 by omega, sLo]
theorem vSame_t {v w u : zVw} (h : vSame v w) (g : vSame w u) : vSame v u := by
  obtain ⟨a1, a2, a3, a4, a5, a6, a7⟩ := h
  obtain ⟨b1, b2, b3, b4, b5, b6, b7⟩ := g
  exact ⟨b1.trans a1, b2.trans a2, b3.trans a3, b4.trans a4, b5.trans a5, b6.trans a6, b7.trans a7⟩
theorem sLo_k {v : zVw} (ho : vOK v) {z : Int} (hz : zR z) : ∀ i : Nat, vSame v (sLo v z i).2.2 ∧ vOK (sLo v z i).2.2 ∧ zR (sLo v z i).2.1
  | 0 => ⟨vSame_r v, ho, hz⟩
  | i + 1 => by
    have h1 := sLo_k ho hz i
    have h2 := sDa_k (v := (sLo v z i).2.2) (x := ((sLo v z i).2.1, (sLo v z i).2.2)) ⟨vSame_r _, h1.2.1, h1.2.2⟩ 10
    exact ⟨vSame_t h1.1 h2.1, h2.2⟩
theorem sPr_b {v : zVw} (ho : vOK v) (w : Int) : 0 ≤ sPr v w ∧ sPr v w ≤ 25 := by
  have h := zSum_b (f := fun p => sPop (sPb (sVl v w) p)) (c := 5) 5 (fun i i0 i1 => sPop_b (sPbN_b (sVl v w) i 5 (by omega)).1)
  unfold sPr
  omega
theorem sLo_b {v : zVw} (ho : vOK v) {z : Int} (hz : zR z) : ∀ i : Nat, 0 ≤ (sLo v z i).1 ∧ (sLo v z i).1 ≤ 25 * (i : Int)
  | 0 => by show (0 : Int) ≤ 0 ∧ (0 : Int) ≤ 25 * ((0 : Nat) : Int); omega
  | i + 1 => by
    have h1 := sLo_b ho hz i
    have hk := sLo_k ho hz i
    have h2 := sDa_k (v := (sLo v z i).2.2) (x := ((sLo v z i).2.1, (sLo v z i).2.2)) ⟨vSame_r _, hk.2.1, hk.2.2⟩ 10
    have h3 := sPr_b h2.2.1 (vW v)
    show 0 ≤ (sLo v z i).1 + sPr (sDa (sLo v z i).2.2 10 ((sLo v z i).2.1, (sLo v z i).2.2)).2 (vW v) ∧ (sLo v z i).1 + sPr (sDa (sLo v z i).2.2 10 ((sLo v z i).2.1, (sLo v z i).2.2)).2 (vW v) ≤ 25 * ((i + 1 : Nat) : Int)
    omega
def tLots (s : zS) (n z : Int) : Int × zS := if n < 1 then (-4, pF s 4) else if 20 < n then (-6, pF s 6) else ((sLo (gV s) z n.toNat).1, s)
def tImage (s : zS) : Int × zS := (vL (gV s) + vR (gV s), pI s (gV s))
def tOn (s : zS) : Int × zS := if gK s = 1 then (vL (gI s) + vR (gI s), pV s (gI s)) else (-3, pF s 3)
def tCount (s : zS) (w : Int) : Int × zS := if w = 0 then (vL (gV s), s) else if w = 1 then (vR (gV s), s) else if w = 2 then (vN (gV s), s) else if w = 3 then (vS (gV s), s) else if w = 4 then (vH (gV s), s) else if w = 5 then (vW (gV s), s) else if w = 6 then (sGaN (gV s) 10, s) else if w = 7 then (gM s, s) else if w = 8 then (gN s, s) else if 11 ≤ w ∧ w ≤ 16 then (gF s (w - 10), s) else (-9, s)
theorem t_fin {P : zM → zS → Prop} {Q : Prop} {t : Int × zS} {r : Int} {s' : zS} {m : zM} (e : t = (r, s')) (h : P m s') (hf : Q) : r = t.1 ∧ P m t.2 ∧ Q := by
  subst e
  exact ⟨rfl, h, hf⟩
