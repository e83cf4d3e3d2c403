/-! each call keeps the ranges -/
theorem sCar_ok {tx : Int → Int} {n : Int} : ∀ (f : Nat) (p : Int) (w : zVw), vOK w → (sTxt tx n f p).1 = true → vOK (sCar tx n f p w).2
  | 0, _, _, h, _ => h
  | f + 1, p, w, h, e => by
    rw [sCar]
    rw [sTxt] at e
    by_cases hp : p < n
    · rw [if_pos hp] at e ⊢
      by_cases q : (sSta tx n p).1 = true
      · rw [if_pos q] at e
        by_cases g : sGd tx p w
        · rw [if_pos (sGdb_t g)]
          exact sCar_ok f _ _ (sDo_ok h q g) e
        · rw [if_neg (by rw [sGdb_f g]; intro z; cases z)]
          exact h
      · rw [if_neg q] at e
        cases e
    · rw [if_neg hp]
      exact h
theorem tk_letter {s : zS} (h : sOK s) (c : Int) : sOK (tLetter s c).2 := by
  unfold tLetter
  split
  · exact sOK_F h _
  · split
    · exact sOK_F h _
    · exact sOK_T h (by omega) (by omega)
theorem tk_evening {s : zS} (h : sOK s) : sOK (tEvening s).2 := by
  unfold tEvening
  split
  · rename_i hb
    split
    · exact sOK_V (sOK_N h) (by unfold sEv; exact sCar_ok _ _ _ h.1 (sBad_1 h.2.2.2.1.1 hb).2)
    · exact sOK_N h
  · exact sOK_N h
theorem tk_person {s : zS} (h : sOK s) (p w : Int) : sOK (tPerson s p w).2 := by
  unfold tPerson
  split
  · split
    · exact h
    · split
      · exact h
      · split
        · exact h
        · exact sOK_F h _
  · exact sOK_F h _
theorem tk_liking {s : zS} (h : sOK s) (a b : Int) : sOK (tLiking s a b).2 := by
  unfold tLiking
  split
  · exact h
  · exact sOK_F h _
theorem tk_like {s : zS} (h : sOK s) (a b z : Int) : sOK (tLike s a b z).2 := by
  unfold tLike
  split
  · split
    · exact sOK_F h _
    · split
      · exact sOK_F h _
      · exact sOK_V h (vLike_ok h.1 (by omega))
  · exact sOK_F h _
theorem tk_order {s : zS} (h : sOK s) (a b : Int) : sOK (tOrder s a b).2 := by
  unfold tOrder
  split
  · exact sOK_F h _
  · split
    · exact sOK_F h _
    · exact sOK_V h (vOrd_ok h.1 (by omega) (by omega))
theorem tk_law {s : zS} (h : sOK s) (w : Int) : sOK (tLaw s w).2 := by
  unfold tLaw
  split
  · exact sOK_V h (vLaw_ok h.1 (by omega))
  · exact sOK_F h _
theorem tk_meets {s : zS} (h : sOK s) (p k : Int) : sOK (tMeets s p k).2 := by
  unfold tMeets
  split
  · exact h
  · exact sOK_F h _
theorem tk_felt {s : zS} (h : sOK s) (p k : Int) : sOK (tFelt s p k).2 := by
  unfold tFelt
  split
  · exact h
  · exact sOK_F h _
theorem tk_yeses {s : zS} (h : sOK s) (p w : Int) : sOK (tYeses s p w).2 := by
  unfold tYeses
  split
  · split
    · exact h
    · split
      · exact h
      · exact sOK_F h _
  · exact sOK_F h _
theorem tk_pairs {s : zS} (h : sOK s) (p : Int) : sOK (tPairs s p).2 := by
  unfold tPairs
  split
  · exact h
  · split
    · exact h
    · exact sOK_F h _
theorem tk_glad {s : zS} (h : sOK s) (w k : Int) : sOK (tGlad s w k).2 := by
  unfold tGlad
  split
  · split
    · exact h
    · exact h
  · exact sOK_F h _
theorem tk_got {s : zS} (h : sOK s) (p k : Int) : sOK (tGot s p k).2 := by
  unfold tGot
  split
  · exact h
  · exact sOK_F h _
theorem tk_row {s : zS} (h : sOK s) (z : Int) : sOK (tRow s z).2 := by
  unfold tRow
  split
  · exact sOK_F h _
  · split
    · exact sOK_F h _
    · exact sOK_R h (by omega) (by omega)
theorem tk_rather {s : zS} (h : sOK s) : sOK (tRather s).2 := by
  unfold tRather
  split
  · exact h
  · exact sOK_F h _
theorem tk_truly {s : zS} (h : sOK s) (a b : Int) : sOK (tTruly s a b).2 := by
  unfold tTruly
  split
  · exact h
  · exact sOK_F h _
theorem tk_lots {s : zS} (h : sOK s) (n z : Int) : sOK (tLots s n z).2 := by
  unfold tLots
  split
  · exact sOK_F h _
  · split
    · exact sOK_F h _
    · exact h
theorem tk_on {s : zS} (h : sOK s) : sOK (tOn s).2 := by
  unfold tOn
  split
  · exact sOK_V h h.2.2.1
  · exact sOK_F h _
theorem tk_count {s : zS} (h : sOK s) (w : Int) : sOK (tCount s w).2 := by
  unfold tCount
  repeat' split
  all_goals exact h
/-- after the class's call, then the reference's -/
theorem zCl_after {m1 m2 : zM} {s : zS} (h : zCl m1 s) (hf : ∀ a, (a < 31 ∨ 48 ≤ a) → m2 a = m1 a) : zCl m2 s := zCl_fr h (fun a ha => hf a (by omega))
theorem zRf_after {μ m1 : zM} {s : zS} (h : zRf μ s) (hf : ∀ a, 31 ≤ a → a < 48 → m1 a = μ a) : zRf m1 s := zRf_fr h (fun a x ha => by rw [hf a (by omega) (by omega)])
/-- one call of both -/
def zB2 (μ : zM) (s : zS) : Prop := zCl μ s ∧ zRf μ s ∧ sOK s
