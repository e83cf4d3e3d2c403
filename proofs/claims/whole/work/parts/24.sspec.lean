/-! what letters tell -/
/-- the letters: there are n of them, tx -/
def zLt (μ : zM) (tx : Int → Int) (n : Int) : Prop := μ 16 1 = n ∧ (0 ≤ n ∧ n ≤ 96) ∧ ∀ i, 0 ≤ i → i < n → μ 17 i = tx i ∧ (0 ≤ tx i ∧ tx i ≤ 255)
theorem zLt_fr {μ m : zM} {tx : Int → Int} {n : Int} (h : zLt μ tx n) (h1 : m 16 = μ 16) (h2 : m 17 = μ 17) : zLt m tx n := by
  unfold zLt
  rw [h1, h2]
  exact h
/-- which form a first letter has (5: none) -/
def zFm (c : Int) : Nat := if c = 108 then 1 else if c = 114 then 1 else if c = 107 then 2 else if c = 111 then 3 else if c = 119 then 4 else 5
theorem zFm_lt (c : Int) : zFm c < 6 := by unfold zFm; repeat' split
                                           all_goals omega
def zIxF (i : Nat) (c : Int) : Nat → Int → Int
  | 0, _ => -1
  | f + 1, k => if zTx i k = c then k else zIxF i c f (k + 1)
def zIx (i : Nat) (c : Int) : Int := zIxF i c (zLn i).toNat 0
theorem zIxF_s (i : Nat) (c : Int) {n k : Int} (h : k < n) : zIxF i c (n - k).toNat k = if zTx i k = c then k else zIxF i c (n - (k + 1)).toNat (k + 1) := by
  rw [show (n - k).toNat = (n - (k + 1)).toNat + 1 by omega, zIxF]
theorem zIxF_b (i : Nat) (c : Int) : ∀ (f : Nat) (k : Int), 0 ≤ k → -1 ≤ zIxF i c f k ∧ zIxF i c f k < k + (f : Int) ∨ zIxF i c f k = -1
  | 0, k, _ => Or.inr rfl
  | f + 1, k, h => by
    rw [zIxF]
    by_cases q : zTx i k = c
    · rw [if_pos q]; omega
    · rw [if_neg q]
      have := zIxF_b i c f (k + 1) (by omega)
      omega
theorem zIx_b {i : Nat} (hi : i < 6) (c : Int) : -1 ≤ zIx i c ∧ zIx i c ≤ 5 := by
  have h := zIxF_b i c (zLn i).toNat 0 (by omega)
  have h2 := zLn_b i hi
  unfold zIx
  omega
theorem zIx0 (c : Int) : zIx 0 c = if c = 109 then 0 else if c = 101 then 1 else if c = 116 then 2 else if c = 115 then 3 else if c = 104 then 4 else if c = 119 then 5 else -1 := by
  have e : zIx 0 c = if (109 : Int) = c then 0 else if (101 : Int) = c then 1 else if (116 : Int) = c then 2 else if (115 : Int) = c then 3 else if (104 : Int) = c then 4 else if (119 : Int) = c then 5 else -1 := rfl
  rw [e]
  simp only [eq_comm]
theorem zIx_out {i : Nat} (hi : i < 6) {c : Int} (hc : c < 0 ∨ 255 < c) : zIx i c = -1 := by
  have key : ∀ (f : Nat) (k : Int), zIxF i c f k = -1 := by
    intro f
    induction f with
    | zero => intro k; rfl
    | succ f ih =>
      intro k
      have := zTx_b hi k
      rw [zIxF, if_neg (by omega), ih]
  exact key _ _
/-- a letter fits a sign of a form -/
abbrev zFit (ch c : Int) : Prop := (ch = 75 ∧ 0 ≤ zIx 0 c) ∨ (ch = 68 ∧ 48 ≤ c ∧ c ≤ 57) ∨ (ch ≠ 75 ∧ ch ≠ 68 ∧ c = ch)
/-- from place p, sign j of the form f on, r signs to go: do they fit; where it stands then -/
def sScn (tx : Int → Int) (n : Int) (f : Nat) : Nat → Int → Int → Bool × Int
  | 0, p, _ => (true, p)
  | r + 1, p, j => if p < n ∧ zFit (zTx f j) (tx p) then sScn tx n f r (p + 1) (j + 1) else (false, p)
/-- a statement from p on -/
def sSta (tx : Int → Int) (n p : Int) : Bool × Int := if p < n ∧ zFm (tx p) < 5 then sScn tx n (zFm (tx p)) (zLn (zFm (tx p))).toNat (p + 1) 0 else (false, p)
/-- statements from p on -/
def sTxt (tx : Int → Int) (n : Int) : Nat → Int → Bool × Int
  | 0, p => (true, p)
  | k + 1, p => if p < n then (if (sSta tx n p).1 = true then sTxt tx n k (sSta tx n p).2 else (false, (sSta tx n p).2)) else (true, p)
/-- the place of the letter with which no evening can go on; -9 -/
def sBad (tx : Int → Int) (n : Int) : Int := if n = 0 then 0 else if (sTxt tx n n.toNat 0).1 = true then -9 else (sTxt tx n n.toNat 0).2
theorem sScn_s (tx : Int → Int) (n : Int) (f : Nat) {e p j : Int} (h : j < e) : sScn tx n f (e - j).toNat p j = if p < n ∧ zFit (zTx f j) (tx p) then sScn tx n f (e - (j + 1)).toNat (p + 1) (j + 1) else (false, p) := by
  rw [show (e - j).toNat = (e - (j + 1)).toNat + 1 by omega, sScn]
theorem sScn_ge (tx : Int → Int) (n : Int) (f : Nat) : ∀ (r : Nat) (p j : Int), p ≤ (sScn tx n f r p j).2 ∧ (sScn tx n f r p j).2 ≤ p + (r : Int)
  | 0, p, j => by show p ≤ p ∧ p ≤ p + ((0 : Nat) : Int); omega
  | r + 1, p, j => by
    rw [sScn]
    by_cases q : p < n ∧ zFit (zTx f j) (tx p)
    · rw [if_pos q]
      have := sScn_ge tx n f r (p + 1) (j + 1)
      omega
    · rw [if_neg q]
      show p ≤ p ∧ p ≤ p + ((r + 1 : Nat) : Int)
      omega
theorem sScn_ok (tx : Int → Int) (n : Int) (f : Nat) : ∀ (r : Nat) (p j : Int), (sScn tx n f r p j).1 = true → (sScn tx n f r p j).2 = p + (r : Int) ∧ ∀ k : Int, 0 ≤ k → k < (r : Int) → p + k < n ∧ zFit (zTx f (j + k)) (tx (p + k))
  | 0, p, j, _ => ⟨by show p = p + ((0 : Nat) : Int); omega, fun k k0 k1 => by omega⟩
  | r + 1, p, j, h => by
    rw [sScn] at h ⊢
    by_cases q : p < n ∧ zFit (zTx f j) (tx p)
    · rw [if_pos q] at h ⊢
      have h1 := sScn_ok tx n f r (p + 1) (j + 1) h
      refine ⟨by rw [h1.1]; omega, fun k k0 k1 => ?_⟩
      by_cases e : k = 0
      · subst e
        rw [Int.add_zero, Int.add_zero]
        exact q
      · have := h1.2 (k - 1) (by omega) (by omega)
        rw [show p + 1 + (k - 1) = p + k by omega, show j + 1 + (k - 1) = j + k by omega] at this
        exact this
    · rw [if_neg q] at h
      cases h
theorem sScn_le (tx : Int → Int) (n : Int) (f : Nat) : ∀ (r : Nat) (p j : Int), p ≤ n → (sScn tx n f r p j).2 ≤ n
  | 0, p, j, h => h
  | r + 1, p, j, h => by
    rw [sScn]
    by_cases q : p < n ∧ zFit (zTx f j) (tx p)
    · rw [if_pos q]; exact sScn_le tx n f r (p + 1) (j + 1) (by omega)
    · rw [if_neg q]; exact h
theorem sSta_ok {tx : Int → Int} {n p : Int} (h : (sSta tx n p).1 = true) : p < n ∧ zFm (tx p) < 5 ∧ (sSta tx n p).2 = p + 1 + zLn (zFm (tx p)) ∧ p + 1 + zLn (zFm (tx p)) ≤ n ∧ ∀ k : Int, 0 ≤ k → k < zLn (zFm (tx p)) → p + 1 + k < n ∧ zFit (zTx (zFm (tx p)) k) (tx (p + 1 + k)) := by
  unfold sSta at h ⊢
  by_cases q : p < n ∧ zFm (tx p) < 5
  · rw [if_pos q] at h ⊢
    have hb := zLn_b (zFm (tx p)) (zFm_lt _)
    have h1 := sScn_ok tx n _ _ _ _ h
    have h2 := sScn_le tx n (zFm (tx p)) (zLn (zFm (tx p))).toNat (p + 1) 0 (by omega)
    rw [h1.1] at h2
    refine ⟨q.1, q.2, by rw [h1.1]; omega, by omega, fun k k0 k1 => ?_⟩
    have := h1.2 k k0 (by omega)
    rw [Int.zero_add] at this
    exact this
  · rw [if_neg q] at h
    cases h
/-- the letters of a good statement -/
theorem sSta_1 {tx : Int → Int} {n p : Int} (h : (sSta tx n p).1 = true) (hf : zFm (tx p) = 1) : p + 3 < n ∧ (sSta tx n p).2 = p + 4 ∧ 0 ≤ zIx 0 (tx (p + 1)) ∧ (48 ≤ tx (p + 2) ∧ tx (p + 2) ≤ 57) ∧ tx (p + 3) = 59 := by
  obtain ⟨h1, h2, h3, h4, h5⟩ := sSta_ok h
  rw [hf] at h3 h4 h5
  have e : zLn 1 = 3 := rfl
  rw [e] at h3 h4 h5
  have a0 := (h5 0 (by omega) (by omega)).2
  have a1 := (h5 1 (by omega) (by omega)).2
  have a2 := (h5 2 (by omega) (by omega)).2
  rw [show zTx 1 0 = 75 from rfl, show p + 1 + 0 = p + 1 by omega] at a0
  rw [show zTx 1 1 = 68 from rfl, show p + 1 + 1 = p + 2 by omega] at a1
  rw [show zTx 1 2 = 59 from rfl, show p + 1 + 2 = p + 3 by omega] at a2
  exact ⟨by omega, by omega, by omega, by omega, by omega⟩
theorem sSta_2 {tx : Int → Int} {n p : Int} (h : (sSta tx n p).1 = true) (hf : zFm (tx p) = 2) : p + 4 < n ∧ (sSta tx n p).2 = p + 5 ∧ (48 ≤ tx (p + 1) ∧ tx (p + 1) ≤ 57) ∧ (48 ≤ tx (p + 2) ∧ tx (p + 2) ≤ 57) ∧ (48 ≤ tx (p + 3) ∧ tx (p + 3) ≤ 57) ∧ tx (p + 4) = 59 := by
  obtain ⟨h1, h2, h3, h4, h5⟩ := sSta_ok h
  rw [hf] at h3 h4 h5
  have e : zLn 2 = 4 := rfl
  rw [e] at h3 h4 h5
  have a0 := (h5 0 (by omega) (by omega)).2
  have a1 := (h5 1 (by omega) (by omega)).2
  have a2 := (h5 2 (by omega) (by omega)).2
  have a3 := (h5 3 (by omega) (by omega)).2
  rw [show zTx 2 0 = 68 from rfl, show p + 1 + 0 = p + 1 by omega] at a0
  rw [show zTx 2 1 = 68 from rfl, show p + 1 + 1 = p + 2 by omega] at a1
  rw [show zTx 2 2 = 68 from rfl, show p + 1 + 2 = p + 3 by omega] at a2
  rw [show zTx 2 3 = 59 from rfl, show p + 1 + 3 = p + 4 by omega] at a3
  exact ⟨by omega, by omega, by omega, by omega, by omega, by omega⟩
theorem sSta_3 {tx : Int → Int} {n p : Int} (h : (sSta tx n p).1 = true) (hf : zFm (tx p) = 3) : p + 3 < n ∧ (sSta tx n p).2 = p + 4 ∧ (48 ≤ tx (p + 1) ∧ tx (p + 1) ≤ 57) ∧ (48 ≤ tx (p + 2) ∧ tx (p + 2) ≤ 57) ∧ tx (p + 3) = 59 := by
  obtain ⟨h1, h2, h3, h4, h5⟩ := sSta_ok h
  rw [hf] at h3 h4 h5
  have e : zLn 3 = 3 := rfl
  rw [e] at h3 h4 h5
  have a0 := (h5 0 (by omega) (by omega)).2
  have a1 := (h5 1 (by omega) (by omega)).2
  have a2 := (h5 2 (by omega) (by omega)).2
  rw [show zTx 3 0 = 68 from rfl, show p + 1 + 0 = p + 1 by omega] at a0
  rw [show zTx 3 1 = 68 from rfl, show p + 1 + 1 = p + 2 by omega] at a1
  rw [show zTx 3 2 = 59 from rfl, show p + 1 + 2 = p + 3 by omega] at a2
  exact ⟨by omega, by omega, by omega, by omega, by omega⟩
theorem sSta_4 {tx : Int → Int} {n p : Int} (h : (sSta tx n p).1 = true) (hf : zFm (tx p) = 4) : p + 2 < n ∧ (sSta tx n p).2 = p + 3 ∧ (48 ≤ tx (p + 1) ∧ tx (p + 1) ≤ 57) ∧ tx (p + 2) = 59 := by
  obtain ⟨h1, h2, h3, h4, h5⟩ := sSta_ok h
  rw [hf] at h3 h4 h5
  have e : zLn 4 = 2 := rfl
  rw [e] at h3 h4 h5
  have a0 := (h5 0 (by omega) (by omega)).2
  have a1 := (h5 1 (by omega) (by omega)).2
  rw [show zTx 4 0 = 68 from rfl, show p + 1 + 0 = p + 1 by omega] at a0
  rw [show zTx 4 1 = 59 from rfl, show p + 1 + 1 = p + 2 by omega] at a1
  exact ⟨by omega, by omega, by omega, by omega⟩
/-- what a good statement does: is it as it must be; what is told then -/
abbrev sGd (tx : Int → Int) (p : Int) (w : zVw) : Prop :=
  (tx p = 108 ∧ vL w < 5) ∨ (tx p = 114 ∧ vR w < 5) ∨ (tx p = 107 ∧ vTh w (tx (p + 1) - 48) ∧ vTh w (tx (p + 2) - 48) ∧ zU (tx (p + 1) - 48) (tx (p + 2) - 48)) ∨ (tx p = 111 ∧ 1 ≤ tx (p + 1) - 48 ∧ tx (p + 1) - 48 ≤ 4 ∧ tx (p + 2) - 48 ≤ 4) ∨ (tx p = 119 ∧ tx (p + 1) - 48 ≤ 3)
def sDo (tx : Int → Int) (p : Int) (w : zVw) : zVw :=
  if tx p = 108 then vAdd w 0 (zIx 0 (tx (p + 1))) (tx (p + 2) - 48)
  else if tx p = 114 then vAdd w 1 (zIx 0 (tx (p + 1))) (tx (p + 2) - 48)
  else if tx p = 107 then vLike w (tx (p + 1) - 48) (tx (p + 2) - 48) (tx (p + 3) - 48)
  else if tx p = 111 then vOrd w (tx (p + 1) - 48) (tx (p + 2) - 48)
  else vLaw w (tx (p + 1) - 48)
/-- all statements from p on carried out: the place of the first that can't be (-9), what is told then -/
def sGdb (tx : Int → Int) (p : Int) (w : zVw) : Bool := decide (sGd tx p w)
def sCar (tx : Int → Int) (n : Int) : Nat → Int → zVw → Int × zVw
  | 0, _, w => (-9, w)
  | k + 1, p, w => if p < n then (if sGdb tx p w = true then sCar tx n k (sSta tx n p).2 (sDo tx p w) else (p, w)) else (-9, w)
theorem sGdb_t {tx : Int → Int} {p : Int} {w : zVw} (h : sGd tx p w) : sGdb tx p w = true := by
  unfold sGdb
  exact decide_eq_true h
theorem sGdb_f {tx : Int → Int} {p : Int} {w : zVw} (h : ¬ sGd tx p w) : sGdb tx p w = false := by
  unfold sGdb
  exact decide_eq_false h
theorem sDo_ok {tx : Int → Int} {n p : Int} {w : zVw} (ho : vOK w) (h : (sSta tx n p).1 = true) (g : sGd tx p w) : vOK (sDo tx p w) := by
  obtain ⟨-, h2, -⟩ := sSta_ok h
  unfold sDo
  have hk := zIx_b (i := 0) (by omega) (tx (p + 1))
  unfold sGd at g
  by_cases q1 : tx p = 108
  · have a := sSta_1 h (by unfold zFm; rw [if_pos q1])
    rw [if_pos q1]
    exact vAdd_ok ho (Or.inl ⟨rfl, by omega⟩) (by omega) (by omega)
  rw [if_neg q1]
  by_cases q2 : tx p = 114
  · have a := sSta_1 h (by unfold zFm; rw [if_neg q1, if_pos q2])
    rw [if_pos q2]
    exact vAdd_ok ho (Or.inr ⟨rfl, by omega⟩) (by omega) (by omega)
  rw [if_neg q2]
  by_cases q3 : tx p = 107
  · have a := sSta_2 h (by unfold zFm; rw [if_neg q1, if_neg q2, if_pos q3])
    rw [if_pos q3]
    exact vLike_ok ho (by omega)
  rw [if_neg q3]
  by_cases q4 : tx p = 111
  · have a := sSta_3 h (by unfold zFm; rw [if_neg q1, if_neg q2, if_neg q3, if_pos q4])
    rw [if_pos q4]
    exact vOrd_ok ho (by omega) (by omega)
  rw [if_neg q4]
  by_cases q5 : tx p = 119
  · have a := sSta_4 h (by unfold zFm; rw [if_neg q1, if_neg q2, if_neg q3, if_neg q4, if_pos q5])
    exact vLaw_ok ho (by omega)
  · omega
