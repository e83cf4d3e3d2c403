/-! pairs by a law -/
def zSum (f : Int → Int) : Nat → Int
  | 0 => 0
  | n + 1 => zSum f n + f (n : Int)
theorem zSum_s (f : Int → Int) {j : Int} (h : 0 ≤ j) : zSum f (j + 1).toNat = zSum f j.toNat + f j := by
  rw [show (j + 1).toNat = j.toNat + 1 by omega, zSum, Int.toNat_of_nonneg h]
theorem zSum_b {f : Int → Int} {c : Int} : ∀ n : Nat, (∀ i : Int, 0 ≤ i → i < (n : Int) → 0 ≤ f i ∧ f i ≤ c) → 0 ≤ zSum f n ∧ zSum f n ≤ c * (n : Int)
  | 0, _ => by show (0 : Int) ≤ 0 ∧ (0 : Int) ≤ c * ((0 : Nat) : Int); simp
  | n + 1, h => by
    have h1 := zSum_b n (fun i i0 i1 => h i i0 (by omega))
    have h2 := h (n : Int) (by omega) (by omega)
    have e : c * ((n + 1 : Nat) : Int) = c * (n : Int) + c := by rw [show ((n + 1 : Nat) : Int) = (n : Int) + 1 by omega, Int.mul_add, Int.mul_one]
    rw [zSum, e]
    omega
theorem zSum_cong {f g : Int → Int} : ∀ n : Nat, (∀ i : Int, 0 ≤ i → i < (n : Int) → f i = g i) → zSum f n = zSum g n
  | 0, _ => rfl
  | n + 1, h => by rw [zSum, zSum, zSum_cong n (fun i i0 i1 => h i i0 (by omega)), h (n : Int) (by omega) (by omega)]
theorem sPop_b {s : Int} (h : 0 ≤ s) : 0 ≤ sPop s ∧ sPop s ≤ 5 := by unfold sPop; omega
def sVal (v : zVw) (p s lw g : Int) : Int := if lw = 1 then sLkN v p s 3 else if lw = 2 then sLkN v p s 1 else if lw = 3 then (if g = -9 then 0 else zand s (zbit g)) else s
theorem sVal_b (v : zVw) {p s lw g : Int} (hp : 0 ≤ p ∧ p < 10) (hs : 0 ≤ s ∧ s < 32) (hg : lw = 3 → g = -9 ∨ zU p g) : 0 ≤ sVal v p s lw g ∧ sVal v p s lw g < 32 := by
  unfold sVal
  split
  · exact sLkN_b v s hp 3
  · split
    · exact sLkN_b v s hp 1
    · split
      · split
        · omega
        · exact zand_b s hs.1 hs.2 g (by omega) (by omega)
      · exact hs
/-- the yeses of one that count by a law -/
def sVl (v : zVw) (lw p : Int) : Int := sVal v p (sSl v p) lw ((sIt v (sIn v 0) 25).1 p)
theorem sVl_b {v : zVw} (ho : vOK v) (lw : Int) {p : Int} (hp : 0 ≤ p ∧ p < 10) : 0 ≤ sVl v lw p ∧ sVl v lw p < 32 := sVal_b v hp (sSlN_b ho p 5) (fun _ => (sIt_b (sIn_b ho 0) 25 p hp.1 hp.2).1)
/-- two are a pair by the yeses f that count -/
abbrev sTwo (f : Int → Int) (p q : Int) : Prop := (¬ zand (f p) (zbit q) = 0) ∧ ¬ zand (f q) (zbit p) = 0
def sPbN (f : Int → Int) (p : Int) : Nat → Int
  | 0 => 0
  | i + 1 => if sTwo f p (sOth p (i : Int)) then zor (sPbN f p i) (zbit (sOth p (i : Int))) else sPbN f p i
theorem sPbN_s (f : Int → Int) (p : Int) {j : Int} (h : 0 ≤ j) : sPbN f p (j + 1).toNat = if sTwo f p (sOth p j) then zor (sPbN f p j.toNat) (zbit (sOth p j)) else sPbN f p j.toNat := by
  rw [show (j + 1).toNat = j.toNat + 1 by omega, sPbN, Int.toNat_of_nonneg h]
theorem sPbN_b (f : Int → Int) (p : Int) : ∀ i : Nat, i ≤ 5 → 0 ≤ sPbN f p i ∧ sPbN f p i < 32
  | 0, _ => by show (0 : Int) ≤ 0 ∧ (0 : Int) < 32; omega
  | i + 1, hi => by
    have h := sPbN_b f p i (by omega)
    rw [sPbN]
    by_cases q : sTwo f p (sOth p (i : Int))
    · rw [if_pos q]
      have hq : 0 ≤ sOth p (i : Int) ∧ sOth p (i : Int) < 10 := by unfold sOth; split <;> omega
      exact zor_bit _ h.1 h.2 _ hq.1 hq.2
    · rw [if_neg q]; exact h
theorem sOth_l {a b : Int} (h : a < 5) : sOth a b = 5 + b := by unfold sOth; rw [if_pos h]
theorem sOth_r {a b : Int} (h : 5 ≤ a) : sOth a b = b := by unfold sOth; rw [if_neg (by omega)]
/-- pairs, as they are found: all of the left ones before a, of a those before b -/
def zPq (μ m : zM) (f : Int → Int) (a b : Int) : Prop := (∀ x, x ≠ 23 → m x = μ x) ∧ (∀ p, 0 ≤ p → p < 5 → m 23 p = if p < a then sPbN f p 5 else if p = a then sPbN f a b.toNat else 0) ∧ (∀ r, 0 ≤ r → r < 5 → m 23 (5 + r) = if r < b then sPbN f (5 + r) (a + 1).toNat else sPbN f (5 + r) a.toNat)
theorem zPq_0 {μ m : zM} {f : Int → Int} (h1 : ∀ x, x ≠ 23 → m x = μ x) (h2 : ∀ p, 0 ≤ p → p < 10 → m 23 p = 0) : zPq μ m f 0 0 := by
  refine ⟨h1, fun p p0 p1 => ?_, fun r r0 r1 => ?_⟩
  · rw [h2 p p0 (by omega), if_neg (by omega)]
    by_cases e : p = 0
    · rw [if_pos e]; rfl
    · rw [if_neg e]
  · rw [h2 _ (by omega) (by omega), if_neg (by omega)]; rfl
theorem zPq_no {μ m : zM} {f : Int → Int} {a b : Int} (h : zPq μ m f a b) (ha : 0 ≤ a ∧ a < 5) (hb : 0 ≤ b ∧ b < 5) (c : ¬ sTwo f a (5 + b)) : zPq μ m f a (b + 1) := by
  obtain ⟨h1, h2, h3⟩ := h
  refine ⟨h1, fun p p0 p1 => ?_, fun r r0 r1 => ?_⟩
  · rw [h2 p p0 p1]
    by_cases e : p < a
    · rw [if_pos e, if_pos e]
    · rw [if_neg e, if_neg e]
      by_cases e2 : p = a
      · rw [if_pos e2, if_pos e2, sPbN_s f a hb.1, sOth_l ha.2, if_neg c]
      · rw [if_neg e2, if_neg e2]
  · rw [h3 r r0 r1]
    by_cases e : r < b
    · rw [if_pos e, if_pos (by omega)]
    · rw [if_neg e]
      by_cases e2 : r = b
      · subst e2
        rw [if_pos (by omega), sPbN_s f (5 + r) ha.1, sOth_r (by omega), if_neg (fun q => c ⟨q.2, q.1⟩)]
      · rw [if_neg (by omega)]
theorem zPq_yes {μ m m1 m2 : zM} {f : Int → Int} {a b : Int} (h : zPq μ m f a b) (ha : 0 ≤ a ∧ a < 5) (hb : 0 ≤ b ∧ b < 5) (c : sTwo f a (5 + b)) (e1 : m1 = zs m 23 a (zor (sPbN f a b.toNat) (zbit (5 + b)))) (e2 : m2 = zs m1 23 (5 + b) (zor (sPbN f (5 + b) a.toNat) (zbit a))) : zPq μ m2 f a (b + 1) := by
  obtain ⟨h1, h2, h3⟩ := h
  refine ⟨fun x hx => ?_, fun p p0 p1 => ?_, fun r r0 r1 => ?_⟩
  · rw [e2, zs_ne _ _ _ hx, e1, zs_ne _ _ _ hx]; exact h1 x hx
  · rw [e2, zs_ne2 _ _ _ (by omega), e1, zs_at, h2 p p0 p1]
    by_cases e : p = a
    · rw [if_pos e, if_neg (by omega), if_pos e, sPbN_s f a hb.1, sOth_l ha.2, if_pos c]
    · rw [if_neg e, if_neg e]
      by_cases e3 : p < a
      · rw [if_pos e3, if_pos e3]
      · rw [if_neg e3, if_neg e3, if_neg e]
  · rw [e2, zs_at, e1, zs_ne2 _ _ _ (by omega), h3 r r0 r1]
    by_cases e : r = b
    · subst e
      rw [if_pos rfl, if_pos (by omega), sPbN_s f (5 + r) ha.1, sOth_r (by omega), if_pos ⟨c.2, c.1⟩]
    · rw [if_neg (by omega)]
      by_cases e3 : r < b
      · rw [if_pos e3, if_pos (by omega)]
      · rw [if_neg e3, if_neg (by omega)]
theorem zPq_next {μ m : zM} {f : Int → Int} {a b : Int} (h : zPq μ m f a b) (ha : 0 ≤ a ∧ a < 5) (hb : 5 ≤ b ∧ b ≤ 5) : zPq μ m f (a + 1) 0 := by
  obtain ⟨h1, h2, h3⟩ := h
  refine ⟨h1, fun p p0 p1 => ?_, fun r r0 r1 => ?_⟩
  · rw [h2 p p0 p1]
    by_cases e : p < a
    · rw [if_pos e, if_pos (by omega)]
    · rw [if_neg e]
      by_cases e2 : p = a
      · rw [if_pos e2, if_pos (by omega), show b.toNat = 5 by omega, e2]
      · rw [if_neg e2, if_neg (by omega)]
        by_cases e3 : p = a + 1
        · rw [if_pos e3]; rfl
        · rw [if_neg e3]
  · rw [h3 r r0 r1, if_pos (by omega), if_neg (by omega)]
def sPb (f : Int → Int) (p : Int) : Int := sPbN f p 5
theorem zPq_end {μ m : zM} {f : Int → Int} {a : Int} (h : zPq μ m f a 0) (ha : 5 ≤ a ∧ a ≤ 5) : ∀ p, 0 ≤ p → p < 10 → m 23 p = sPb f p := fun p p0 p1 => by
  obtain ⟨h1, h2, h3⟩ := h
  by_cases e : p < 5
  · rw [h2 p p0 e, if_pos (by omega)]; rfl
  · have := h3 (p - 5) (by omega) (by omega)
    rw [show 5 + (p - 5) = p by omega, if_neg (by omega), show a.toNat = 5 by omega] at this
    exact this
