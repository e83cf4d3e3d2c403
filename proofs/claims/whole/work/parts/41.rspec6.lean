/-! the reference's letters -/
abbrev zDg (c : Int) : Prop := 48 ≤ c ∧ c ≤ 57
theorem sSta_e1 {tx : Int → Int} {n p : Int} (hp : p < n) (c : zFm (tx p) = 1) : sSta tx n p = if p + 1 < n ∧ 0 ≤ zIx 0 (tx (p + 1)) then (if p + 2 < n ∧ zDg (tx (p + 2)) then (if p + 3 < n ∧ tx (p + 3) = 59 then (true, p + 4) else (false, p + 3)) else (false, p + 2)) else (false, p + 1) := by
  have f0 : zFit (zTx 1 0) (tx (p + 1)) ↔ 0 ≤ zIx 0 (tx (p + 1)) := by rw [show zTx 1 0 = 75 from rfl]; omega
  have f1 : zFit (zTx 1 (0 + 1)) (tx (p + 2)) ↔ zDg (tx (p + 2)) := by rw [show zTx 1 (0 + 1) = 68 from rfl]; omega
  have f2 : zFit (zTx 1 (0 + 1 + 1)) (tx (p + 3)) ↔ tx (p + 3) = 59 := by rw [show zTx 1 (0 + 1 + 1) = 59 from rfl]; omega
  unfold sSta
  rw [if_pos ⟨hp, by omega⟩, c]
  show (if p + 1 < n ∧ zFit (zTx 1 0) (tx (p + 1)) then (if p + 1 + 1 < n ∧ zFit (zTx 1 (0 + 1)) (tx (p + 1 + 1)) then (if p + 1 + 1 + 1 < n ∧ zFit (zTx 1 (0 + 1 + 1)) (tx (p + 1 + 1 + 1)) then (true, p + 1 + 1 + 1 + 1) else (false, p + 1 + 1 + 1)) else (false, p + 1 + 1)) else (false, p + 1)) = _
  rw [show p + 1 + 1 = p + 2 by omega, show p + 2 + 1 = p + 3 by omega, show p + 3 + 1 = p + 4 by omega]
  simp only [f0, f1, f2]
theorem sSta_e2 {tx : Int → Int} {n p : Int} (hp : p < n) (c : zFm (tx p) = 2) : sSta tx n p = if p + 1 < n ∧ zDg (tx (p + 1)) then (if p + 2 < n ∧ zDg (tx (p + 2)) then (if p + 3 < n ∧ zDg (tx (p + 3)) then (if p + 4 < n ∧ tx (p + 4) = 59 then (true, p + 5) else (false, p + 4)) else (false, p + 3)) else (false, p + 2)) else (false, p + 1) := by
  have f0 : zFit (zTx 2 0) (tx (p + 1)) ↔ zDg (tx (p + 1)) := by rw [show zTx 2 0 = 68 from rfl]; omega
  have f1 : zFit (zTx 2 (0 + 1)) (tx (p + 2)) ↔ zDg (tx (p + 2)) := by rw [show zTx 2 (0 + 1) = 68 from rfl]; omega
  have f2 : zFit (zTx 2 (0 + 1 + 1)) (tx (p + 3)) ↔ zDg (tx (p + 3)) := by rw [show zTx 2 (0 + 1 + 1) = 68 from rfl]; omega
  have f3 : zFit (zTx 2 (0 + 1 + 1 + 1)) (tx (p + 4)) ↔ tx (p + 4) = 59 := by rw [show zTx 2 (0 + 1 + 1 + 1) = 59 from rfl]; omega
  unfold sSta
  rw [if_pos ⟨hp, by omega⟩, c]
  show (if p + 1 < n ∧ zFit (zTx 2 0) (tx (p + 1)) then (if p + 1 + 1 < n ∧ zFit (zTx 2 (0 + 1)) (tx (p + 1 + 1)) then (if p + 1 + 1 + 1 < n ∧ zFit (zTx 2 (0 + 1 + 1)) (tx (p + 1 + 1 + 1)) then (if p + 1 + 1 + 1 + 1 < n ∧ zFit (zTx 2 (0 + 1 + 1 + 1)) (tx (p + 1 + 1 + 1 + 1)) then (true, p + 1 + 1 + 1 + 1 + 1) else (false, p + 1 + 1 + 1 + 1)) else (false, p + 1 + 1 + 1)) else (false, p + 1 + 1)) else (false, p + 1)) = _
  rw [show p + 1 + 1 = p + 2 by omega, show p + 2 + 1 = p + 3 by omega, show p + 3 + 1 = p + 4 by omega, show p + 4 + 1 = p + 5 by omega]
  simp only [f0, f1, f2, f3]
theorem sSta_e3 {tx : Int → Int} {n p : Int} (hp : p < n) (c : zFm (tx p) = 3) : sSta tx n p = if p + 1 < n ∧ zDg (tx (p + 1)) then (if p + 2 < n ∧ zDg (tx (p + 2)) then (if p + 3 < n ∧ tx (p + 3) = 59 then (true, p + 4) else (false, p + 3)) else (false, p + 2)) else (false, p + 1) := by
  have f0 : zFit (zTx 3 0) (tx (p + 1)) ↔ zDg (tx (p + 1)) := by rw [show zTx 3 0 = 68 from rfl]; omega
  have f1 : zFit (zTx 3 (0 + 1)) (tx (p + 2)) ↔ zDg (tx (p + 2)) := by rw [show zTx 3 (0 + 1) = 68 from rfl]; omega
  have f2 : zFit (zTx 3 (0 + 1 + 1)) (tx (p + 3)) ↔ tx (p + 3) = 59 := by rw [show zTx 3 (0 + 1 + 1) = 59 from rfl]; omega
  unfold sSta
  rw [if_pos ⟨hp, by omega⟩, c]
  show (if p + 1 < n ∧ zFit (zTx 3 0) (tx (p + 1)) then (if p + 1 + 1 < n ∧ zFit (zTx 3 (0 + 1)) (tx (p + 1 + 1)) then (if p + 1 + 1 + 1 < n ∧ zFit (zTx 3 (0 + 1 + 1)) (tx (p + 1 + 1 + 1)) then (true, p + 1 + 1 + 1 + 1) else (false, p + 1 + 1 + 1)) else (false, p + 1 + 1)) else (false, p + 1)) = _
  rw [show p + 1 + 1 = p + 2 by omega, show p + 2 + 1 = p + 3 by omega, show p + 3 + 1 = p + 4 by omega]
  simp only [f0, f1, f2]
theorem sSta_e4 {tx : Int → Int} {n p : Int} (hp : p < n) (c : zFm (tx p) = 4) : sSta tx n p = if p + 1 < n ∧ zDg (tx (p + 1)) then (if p + 2 < n ∧ tx (p + 2) = 59 then (true, p + 3) else (false, p + 2)) else (false, p + 1) := by
  have f0 : zFit (zTx 4 0) (tx (p + 1)) ↔ zDg (tx (p + 1)) := by rw [show zTx 4 0 = 68 from rfl]; omega
  have f1 : zFit (zTx 4 (0 + 1)) (tx (p + 2)) ↔ tx (p + 2) = 59 := by rw [show zTx 4 (0 + 1) = 59 from rfl]; omega
  unfold sSta
  rw [if_pos ⟨hp, by omega⟩, c]
  show (if p + 1 < n ∧ zFit (zTx 4 0) (tx (p + 1)) then (if p + 1 + 1 < n ∧ zFit (zTx 4 (0 + 1)) (tx (p + 1 + 1)) then (true, p + 1 + 1 + 1) else (false, p + 1 + 1)) else (false, p + 1)) = _
  rw [show p + 1 + 1 = p + 2 by omega, show p + 2 + 1 = p + 3 by omega]
  simp only [f0, f1]
theorem zFm_v (c : Int) : (zFm c = 1 ∧ (c = 108 ∨ c = 114)) ∨ (zFm c = 2 ∧ c = 107) ∨ (zFm c = 3 ∧ c = 111) ∨ (zFm c = 4 ∧ c = 119) ∨ (zFm c = 5 ∧ ¬ c = 108 ∧ ¬ c = 114 ∧ ¬ c = 107 ∧ ¬ c = 111 ∧ ¬ c = 119) := by
  unfold zFm
  repeat' split
  all_goals omega
/-- what is read of a good statement -/
def zFld (m : zM) (tx : Int → Int) (p : Int) : Prop := ((tx p = 108 ∨ tx p = 114) → m 31 17 = zIx 0 (tx (p + 1)) ∧ m 31 14 = tx (p + 2) - 48) ∧ (tx p = 107 → m 31 14 = tx (p + 1) - 48 ∧ m 31 15 = tx (p + 2) - 48 ∧ m 31 16 = tx (p + 3) - 48) ∧ (tx p = 111 → m 31 14 = tx (p + 1) - 48 ∧ m 31 15 = tx (p + 2) - 48) ∧ (tx p = 119 → m 31 14 = tx (p + 1) - 48)
theorem sDo_LR (tx : Int → Int) (p : Int) (w : zVw) : vL (sDo tx p w) = vL w + (if tx p = 108 then 1 else 0) ∧ vR (sDo tx p w) = vR w + (if tx p = 114 then 1 else 0) := by
  unfold sDo
  by_cases q1 : tx p = 108
  · rw [if_pos q1, if_pos q1, if_neg (by omega)]
    exact ⟨rfl, (Int.add_zero _).symm⟩
  rw [if_neg q1, if_neg q1]
  by_cases q2 : tx p = 114
  · rw [if_pos q2, if_pos q2]
    exact ⟨(Int.add_zero _).symm, rfl⟩
  rw [if_neg q2, if_neg q2, Int.add_zero, Int.add_zero]
  split
  · exact ⟨rfl, rfl⟩
  · split <;> exact ⟨rfl, rfl⟩
/-- each good statement has one end -/
theorem sSta_cnt {tx : Int → Int} {n p : Int} (hp : 0 ≤ p) (h : (sSta tx n p).1 = true) : zSum (fun i => if tx i = 59 then 1 else 0) (sSta tx n p).2.toNat = zSum (fun i => if tx i = 59 then 1 else 0) p.toNat + 1 := by
  have hs := sSta_ok h
  have hk := zFm_v (tx p)
  have st : ∀ j : Int, 0 ≤ j → zSum (fun i => if tx i = 59 then 1 else 0) (j + 1).toNat = zSum (fun i => if tx i = 59 then 1 else 0) j.toNat + (if tx j = 59 then 1 else 0) := fun j hj => zSum_s _ hj
  have s0 := st p hp
  have s1 := st (p + 1) (by omega)
  have s2 := st (p + 1 + 1) (by omega)
  have s3 := st (p + 1 + 1 + 1) (by omega)
  have s4 := st (p + 1 + 1 + 1 + 1) (by omega)
  rw [show p + 1 + 1 = p + 2 by omega] at s1 s2 s3 s4
  rw [show p + 2 + 1 = p + 3 by omega] at s2 s3 s4
  rw [show p + 3 + 1 = p + 4 by omega] at s3 s4
  rw [show p + 4 + 1 = p + 5 by omega] at s4
  rw [if_neg (by omega)] at s0
  rcases hk with ⟨e, k⟩ | ⟨e, k⟩ | ⟨e, k⟩ | ⟨e, k⟩ | ⟨e, k⟩
  · have a := sSta_1 h e
    have hz := zIx0 (tx (p + 1))
    have hkn : ¬ tx (p + 1) = 59 := fun z => by rw [z, show zIx 0 59 = -1 from rfl] at a; omega
    rw [if_neg hkn] at s1
    rw [if_neg (by omega)] at s2
    rw [if_pos a.2.2.2.2] at s3
    rw [a.2.1]
    omega
  · have a := sSta_2 h e
    rw [if_neg (by omega)] at s1
    rw [if_neg (by omega)] at s2
    rw [if_neg (by omega)] at s3
    rw [if_pos a.2.2.2.2.2] at s4
    rw [a.2.1]
    omega
  · have a := sSta_3 h e
    rw [if_neg (by omega)] at s1
    rw [if_neg (by omega)] at s2
    rw [if_pos a.2.2.2.2] at s3
    rw [a.2.1]
    omega
  · have a := sSta_4 h e
    rw [if_neg (by omega)] at s1
    rw [if_pos a.2.2.2] at s2
    rw [a.2.1]
    omega
  · have := hs.2.1
    omega
/-- whether it is as it must be, by what is read -/
abbrev zGdR (c l r o t : Int) : Prop := (c = 108 ∧ l < 5) ∨ (c = 114 ∧ r < 5) ∨ (c = 107 ∧ ((0 ≤ o ∧ o < l) ∨ (5 ≤ o ∧ o < 5 + r)) ∧ ((0 ≤ t ∧ t < l) ∨ (5 ≤ t ∧ t < 5 + r)) ∧ ¬ o / 5 = t / 5) ∨ (c = 111 ∧ (1 ≤ o ∧ o ≤ 4) ∧ t < 5) ∨ (¬ c = 108 ∧ ¬ c = 114 ∧ ¬ c = 107 ∧ ¬ c = 111 ∧ o < 4)
theorem zGdR_t {m : zM} {tx : Int → Int} {n p : Int} {w : zVw} (ho : vOK w) (h : (sSta tx n p).1 = true) (hf : zFld m tx p) : zGdR (tx p) (vL w) (vR w) (m 31 14) (m 31 15) ↔ sGd tx p w := by
  have hk := zFm_v (tx p)
  have hs := sSta_ok h
  obtain ⟨o1, o2, -⟩ := ho
  obtain ⟨f1, f2, f3, f4⟩ := hf
  rcases hk with ⟨e, k⟩ | ⟨e, k⟩ | ⟨e, k⟩ | ⟨e, k⟩ | ⟨e, k⟩
  · omega
  · have a := sSta_2 h e
    have b := f2 k
    rw [b.1, b.2.1]
    omega
  · have a := sSta_3 h e
    have b := f3 k
    rw [b.1, b.2]
    omega
  · have b := f4 k
    rw [b]
    omega
  · have := hs.2.1
    omega
