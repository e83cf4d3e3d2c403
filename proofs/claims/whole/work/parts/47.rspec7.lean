/-! the reference's letters: statements and texts -/
theorem zFm_1 {c : Int} (h : zFm c < 5) : (zFm c = 1 ∧ (c = 108 ∨ c = 114)) ∨ (zFm c = 2 ∧ c = 107) ∨ (zFm c = 3 ∧ c = 111) ∨ (zFm c = 4 ∧ c = 119) := by
  rcases zFm_v c with q | q | q | q | q
  · exact Or.inl q
  · exact Or.inr (Or.inl q)
  · exact Or.inr (Or.inr (Or.inl q))
  · exact Or.inr (Or.inr (Or.inr q))
  · omega
theorem zFm_lt5 {c : Int} (h : c = 108 ∨ c = 114 ∨ c = 107 ∨ c = 111 ∨ c = 119) : zFm c < 5 := by
  rcases h with e | e | e | e | e <;> subst e <;> decide
theorem zFm_no5 {c : Int} (h : ¬ c = 108 ∧ ¬ c = 114 ∧ ¬ c = 107 ∧ ¬ c = 111 ∧ ¬ c = 119) : ¬ zFm c < 5 := by
  rcases zFm_v c with q | q | q | q | q <;> omega
/-- a statement, by what is read behind its first letter -/
abbrev zMid (m : zM) (tx : Int → Int) (n p r : Int) : Prop := (r = 0 ∧ sSta tx n p = (false, m 31 13)) ∨ (r = 1 ∧ (p < m 31 13 ∧ m 31 13 ≤ n) ∧ sSta tx n p = (if m 31 13 < n ∧ tx (m 31 13) = 59 then (true, m 31 13 + 1) else (false, m 31 13)) ∧ zFld m tx p)
theorem ts_1 {m : zM} {tx : Int → Int} {n p r : Int} (hp : p < n) (hf : zFm (tx p) = 1) (hc : tx p = 108 ∨ tx p = 114) (h : (r = 1 ∧ (p + 1 < n ∧ 0 ≤ zIx 0 (tx (p + 1))) ∧ (p + 1 + 1 < n ∧ zDg (tx (p + 1 + 1))) ∧ m 31 13 = p + 1 + 2 ∧ m 31 17 = zIx 0 (tx (p + 1)) ∧ m 31 14 = tx (p + 1 + 1) - 48) ∨ (r = 0 ∧ ¬ (p + 1 < n ∧ 0 ≤ zIx 0 (tx (p + 1))) ∧ m 31 13 = p + 1) ∨ (r = 0 ∧ (p + 1 < n ∧ 0 ≤ zIx 0 (tx (p + 1))) ∧ ¬ (p + 1 + 1 < n ∧ zDg (tx (p + 1 + 1))) ∧ m 31 13 = p + 1 + 1)) : zMid m tx n p r := by
  unfold zMid
  rw [show p + 1 + 1 = p + 2 by omega] at h
  rw [sSta_e1 hp hf]
  rcases h with ⟨r1, k1, k2, k3, k4, k5⟩ | ⟨r0, k1, k2⟩ | ⟨r0, k1, k2, k3⟩
  · refine Or.inr ⟨r1, by omega, ?_, ?_⟩
    · rw [if_pos k1, if_pos k2, k3, show p + 1 + 2 = p + 3 by omega, show p + 3 + 1 = p + 4 by omega]
    · exact ⟨fun _ => ⟨k4, k5⟩, fun z => by omega, fun z => by omega, fun z => by omega⟩
  · refine Or.inl ⟨r0, ?_⟩
    rw [if_neg k1, k2]
  · refine Or.inl ⟨r0, ?_⟩
    rw [if_pos k1, if_neg k2, k3]
theorem ts_2 {m : zM} {tx : Int → Int} {n p r : Int} (hp : p < n) (hf : zFm (tx p) = 2) (hc : tx p = 107) (h : (r = 1 ∧ (p + 1 < n ∧ zDg (tx (p + 1))) ∧ (p + 1 + 1 < n ∧ zDg (tx (p + 1 + 1))) ∧ (p + 1 + 2 < n ∧ zDg (tx (p + 1 + 2))) ∧ m 31 13 = p + 1 + 3 ∧ m 31 14 = tx (p + 1) - 48 ∧ m 31 15 = tx (p + 1 + 1) - 48 ∧ m 31 16 = tx (p + 1 + 2) - 48) ∨ (r = 0 ∧ ¬ (p + 1 < n ∧ zDg (tx (p + 1))) ∧ m 31 13 = p + 1) ∨ (r = 0 ∧ (p + 1 < n ∧ zDg (tx (p + 1))) ∧ ¬ (p + 1 + 1 < n ∧ zDg (tx (p + 1 + 1))) ∧ m 31 13 = p + 1 + 1) ∨ (r = 0 ∧ (p + 1 < n ∧ zDg (tx (p + 1))) ∧ (p + 1 + 1 < n ∧ zDg (tx (p + 1 + 1))) ∧ ¬ (p + 1 + 2 < n ∧ zDg (tx (p + 1 + 2))) ∧ m 31 13 = p + 1 + 2)) : zMid m tx n p r := by
  unfold zMid
  rw [show p + 1 + 1 = p + 2 by omega, show p + 1 + 2 = p + 3 by omega] at h
  rw [sSta_e2 hp hf]
  rcases h with ⟨r1, k1, k2, k3, k4, k5, k6, k7⟩ | ⟨r0, k1, k2⟩ | ⟨r0, k1, k2, k3⟩ | ⟨r0, k1, k2, k3, k4⟩
  · refine Or.inr ⟨r1, by omega, ?_, ?_⟩
    · rw [if_pos k1, if_pos k2, if_pos k3, k4, show p + 1 + 3 = p + 4 by omega, show p + 4 + 1 = p + 5 by omega]
    · exact ⟨fun z => by omega, fun _ => ⟨k5, k6, k7⟩, fun z => by omega, fun z => by omega⟩
  · refine Or.inl ⟨r0, ?_⟩
    rw [if_neg k1, k2]
  · refine Or.inl ⟨r0, ?_⟩
    rw [if_pos k1, if_neg k2, k3]
  · refine Or.inl ⟨r0, ?_⟩
    rw [if_pos k1, if_pos k2, if_neg k3, k4]
theorem ts_3 {m : zM} {tx : Int → Int} {n p r : Int} (hp : p < n) (hf : zFm (tx p) = 3) (hc : tx p = 111) (h : (r = 1 ∧ (p + 1 < n ∧ zDg (tx (p + 1))) ∧ (p + 1 + 1 < n ∧ zDg (tx (p + 1 + 1))) ∧ m 31 13 = p + 1 + 2 ∧ m 31 14 = tx (p + 1) - 48 ∧ m 31 15 = tx (p + 1 + 1) - 48) ∨ (r = 0 ∧ ¬ (p + 1 < n ∧ zDg (tx (p + 1))) ∧ m 31 13 = p + 1) ∨ (r = 0 ∧ (p + 1 < n ∧ zDg (tx (p + 1))) ∧ ¬ (p + 1 + 1 < n ∧ zDg (tx (p + 1 + 1))) ∧ m 31 13 = p + 1 + 1)) : zMid m tx n p r := by
  unfold zMid
  rw [show p + 1 + 1 = p + 2 by omega] at h
  rw [sSta_e3 hp hf]
  rcases h with ⟨r1, k1, k2, k3, k4, k5⟩ | ⟨r0, k1, k2⟩ | ⟨r0, k1, k2, k3⟩
  · refine Or.inr ⟨r1, by omega, ?_, ?_⟩
    · rw [if_pos k1, if_pos k2, k3, show p + 1 + 2 = p + 3 by omega, show p + 3 + 1 = p + 4 by omega]
    · exact ⟨fun z => by omega, fun z => by omega, fun _ => ⟨k4, k5⟩, fun z => by omega⟩
  · refine Or.inl ⟨r0, ?_⟩
    rw [if_neg k1, k2]
  · refine Or.inl ⟨r0, ?_⟩
    rw [if_pos k1, if_neg k2, k3]
theorem ts_4 {m : zM} {tx : Int → Int} {n p r : Int} (hp : p < n) (hf : zFm (tx p) = 4) (hc : tx p = 119) (h : (r = 1 ∧ (p + 1 < n ∧ zDg (tx (p + 1))) ∧ m 31 13 = p + 1 + 1 ∧ m 31 14 = tx (p + 1) - 48) ∨ (r = 0 ∧ ¬ (p + 1 < n ∧ zDg (tx (p + 1))) ∧ m 31 13 = p + 1)) : zMid m tx n p r := by
  unfold zMid
  rw [show p + 1 + 1 = p + 2 by omega] at h
  rw [sSta_e4 hp hf]
  rcases h with ⟨r1, k1, k2, k3⟩ | ⟨r0, k1, k2⟩
  · refine Or.inr ⟨r1, by omega, ?_, ?_⟩
    · rw [if_pos k1, k2, show p + 2 + 1 = p + 3 by omega]
    · exact ⟨fun z => by omega, fun z => by omega, fun z => by omega, fun _ => k3⟩
  · refine Or.inl ⟨r0, ?_⟩
    rw [if_neg k1, k2]
/-- what is read of a statement that ends -/
theorem ts_yes {m m2 : zM} {tx : Int → Int} {n p r r2 : Int} (h : zMid m tx n p r) (h0 : ¬ r = 0) (t : ((r2 = 1 ∧ (m 31 13 < n ∧ tx (m 31 13) = 59) ∧ m2 31 13 = m 31 13 + 1) ∨ (r2 = 0 ∧ ¬ (m 31 13 < n ∧ tx (m 31 13) = 59) ∧ m2 31 13 = m 31 13)) ∧ ∀ x y, ¬ (x = 31 ∧ (y = 13)) → m2 x y = m x y) (h2 : ¬ r2 = 0) : (((1 : Int) = 1 ∧ (sSta tx n p).1 = true ∧ zFld m2 tx p) ∨ ((1 : Int) = 0 ∧ (sSta tx n p).1 = false)) ∧ m2 31 13 = (sSta tx n p).2 := by
  obtain ⟨t1, t2⟩ := t
  rcases h with ⟨k, -⟩ | ⟨-, -, k, kf⟩
  · exact absurd k h0
  rcases t1 with ⟨-, t3, t4⟩ | ⟨t3, -, -⟩
  · rw [if_pos t3] at k
    refine ⟨Or.inl ⟨rfl, by rw [k], ?_⟩, by rw [k, t4]⟩
    unfold zFld
    rw [t2 31 14 (by omega), t2 31 15 (by omega), t2 31 16 (by omega), t2 31 17 (by omega)]
    exact kf
  · exact absurd t3 h2
theorem ts_no2 {m m2 : zM} {tx : Int → Int} {n p r r2 : Int} (h : zMid m tx n p r) (h0 : ¬ r = 0) (t : ((r2 = 1 ∧ (m 31 13 < n ∧ tx (m 31 13) = 59) ∧ m2 31 13 = m 31 13 + 1) ∨ (r2 = 0 ∧ ¬ (m 31 13 < n ∧ tx (m 31 13) = 59) ∧ m2 31 13 = m 31 13)) ∧ ∀ x y, ¬ (x = 31 ∧ (y = 13)) → m2 x y = m x y) (h2 : r2 = 0) : (((0 : Int) = 1 ∧ (sSta tx n p).1 = true ∧ zFld m2 tx p) ∨ ((0 : Int) = 0 ∧ (sSta tx n p).1 = false)) ∧ m2 31 13 = (sSta tx n p).2 := by
  obtain ⟨t1, -⟩ := t
  rcases h with ⟨k, -⟩ | ⟨-, -, k, kf⟩
  · exact absurd k h0
  rcases t1 with ⟨t3, -, -⟩ | ⟨-, t3, t4⟩
  · omega
  · rw [if_neg t3] at k
    exact ⟨Or.inr ⟨rfl, by rw [k]⟩, by rw [k, t4]⟩
theorem ts_no1 {m : zM} {tx : Int → Int} {n p r : Int} (h : zMid m tx n p r) (h0 : r = 0) : (((0 : Int) = 1 ∧ (sSta tx n p).1 = true ∧ zFld m tx p) ∨ ((0 : Int) = 0 ∧ (sSta tx n p).1 = false)) ∧ m 31 13 = (sSta tx n p).2 := by
  rcases h with ⟨-, k⟩ | ⟨k, -⟩
  · exact ⟨Or.inr ⟨rfl, by rw [k]⟩, by rw [k]⟩
  · omega
/-- where a statement ends -/
theorem sSta_in {tx : Int → Int} {n p : Int} (hp : 0 ≤ p ∧ p ≤ n) : p ≤ (sSta tx n p).2 ∧ (sSta tx n p).2 ≤ n ∧ ((sSta tx n p).1 = true → p < (sSta tx n p).2) := by
  refine ⟨?_, ?_, fun h => ?_⟩
  · unfold sSta
    split
    · have := sScn_ge tx n (zFm (tx p)) (zLn (zFm (tx p))).toNat (p + 1) 0
      omega
    · exact Int.le_refl p
  · unfold sSta
    split
    · exact sScn_le tx n _ _ _ _ (by omega)
    · exact hp.2
  · obtain ⟨-, -, h3, -⟩ := sSta_ok h
    have hb := zLn_b (zFm (tx p)) (zFm_lt _)
    omega
theorem tf_eq {b : Bool} (h : ¬ b = true) : b = false := by
  cases b
  · rfl
  · exact absurd rfl h
/-- a text: so far k statements were good -/
theorem isT_1 {tx : Int → Int} {n p k r q : Int} (hk : 0 ≤ k ∧ k ≤ p) (hp : p < n) (e : sTxt tx n n.toNat 0 = sTxt tx n (n - k).toNat p) (hr : (r = 1 ∧ (sSta tx n p).1 = true) ∨ (r = 0 ∧ (sSta tx n p).1 = false)) (hq : q = (sSta tx n p).2) : (r = 1 → sTxt tx n n.toNat 0 = sTxt tx n (n - (k + 1)).toNat q) ∧ (r = 0 → sTxt tx n n.toNat 0 = (false, q)) := by
  subst hq
  refine ⟨fun h => ?_, fun h => ?_⟩
  · rw [e]
    exact sTxt_go (by omega) hp (Prod.ext (by rcases hr with a | a; exact a.2; omega) rfl)
  · rw [e]
    exact sTxt_bad (by omega) hp (Prod.ext (by rcases hr with a | a; omega; exact a.2) rfl)
/-- a new one's likings: the places that are told anew, so far -/
abbrev zNp (p n x : Int) : Prop := (x / 5 = p ∧ x % 5 < n) ∨ (x % 5 = p % 5 ∧ ((p < 5 ∧ 5 ≤ x / 5 ∧ x / 5 < 5 + n) ∨ (5 ≤ p ∧ x / 5 < n)))
theorem zNp_s {ma : zM} {f : Int → Int} {p n : Int} (hp : 0 ≤ p ∧ p < 10) (hn : 0 ≤ n ∧ n < 5) (h : ∀ x, 0 ≤ x → x < 50 → ma 34 x = if zNp p n x then 5 else f x) : ∀ x, 0 ≤ x → x < 50 → (zs (zs ma 34 (5 * p + n) 5) 34 (5 * sOth p n + p % 5) 5) 34 x = if zNp p (n + 1) x then 5 else f x := by
  intro x x0 x1
  have e : sOth p n = if p < 5 then 5 + n else n := rfl
  rw [zs_at, zs_at, h x x0 x1]
  by_cases q : zNp p (n + 1) x
  · rw [if_pos q]
    by_cases q1 : zNp p n x
    · rw [if_pos q1]
      split <;> (try rfl)
      split <;> rfl
    · by_cases q2 : x = 5 * sOth p n + p % 5
      · rw [if_pos q2]
      · rw [if_neg q2, if_pos]
        split at e <;> omega
  · rw [if_neg q, if_neg (by split at e <;> omega), if_neg (by omega), if_neg (by omega)]
/-- one more has come -/
theorem zQ_add {μ m m2 : zM} {v : zVw} {s k b : Int} (h : zQ μ v) (ho : vOK v) (hs : (s = 0 ∧ vL v < 5) ∨ (s = 1 ∧ vR v < 5)) (a1 : ∀ x, 0 ≤ x → x < 10 → m 32 x = if x = vOne v s then k else μ 32 x) (a2 : ∀ x, 0 ≤ x → x < 10 → m 33 x = if x = vOne v s then b else μ 33 x) (a3 : ∀ x, 0 ≤ x → x < 50 → m 34 x = if zNp (vOne v s) 5 x then 5 else μ 34 x) (a4 : ∀ x, x ≤ 4 → m 31 x = μ 31 x) (e : (s = 0 ∧ m2 = zs m 31 0 (vL v + 1)) ∨ (s = 1 ∧ m2 = zs m 31 1 (vR v + 1))) : zQ m2 (vAdd v s k b) := by
  obtain ⟨q1, q2, q3, q4, q5, q6, q7⟩ := h
  obtain ⟨o1, o2, -⟩ := ho
  have hO : vOne v s = if s = 0 then vL v else 5 + vR v := rfl
  have hf : ∀ a x, ¬ (a = 31 ∧ x ≤ 1) → m2 a x = m a x := fun a x hx => by
    rcases e with ⟨-, e⟩ | ⟨-, e⟩ <;> rw [e, zs_o _ _ (by omega)]
  refine ⟨?_, ?_, ?_, ?_, ?_, fun p p0 p1 => ⟨?_, ?_⟩, fun x y hxy => ?_⟩
  · show _ = if s = 0 then vL v + 1 else vL v
    rcases e with ⟨s0, e⟩ | ⟨s0, e⟩
    · rw [e, zs_self, if_pos s0]
    · rw [e, zs_o _ _ (by omega), a4 0 (by omega), q1, if_neg (by omega)]
  · show _ = if s = 0 then vR v else vR v + 1
    rcases e with ⟨s0, e⟩ | ⟨s0, e⟩
    · rw [e, zs_o _ _ (by omega), a4 1 (by omega), q2, if_pos s0]
    · rw [e, zs_self, if_neg (by omega)]
  · rw [hf 31 2 (by omega), a4 2 (by omega)]; exact q3
  · rw [hf 31 3 (by omega), a4 3 (by omega)]; exact q4
  · rw [hf 31 4 (by omega), a4 4 (by omega)]; exact q5
  · rw [hf 32 p (by omega), a1 p p0 p1, (q6 p p0 p1).1]; rfl
  · rw [hf 33 p (by omega), a2 p p0 p1, (q6 p p0 p1).2]; rfl
  · rw [hf 34 _ (by omega), a3 _ (by omega) (by omega)]
    show _ = if x = vOne v s ∨ y = vOne v s then 5 else vA v x y
    by_cases c : x = vOne v s ∨ y = vOne v s
    · rw [if_pos c, if_pos]
      split at hO <;> omega
    · rw [if_neg c, if_neg]
      · exact q7 x y hxy
      · split at hO <;> omega
/-- carried out, each kind of statement -/
theorem sDo_k {tx : Int → Int} {p : Int} (w : zVw) : (tx p = 108 → sDo tx p w = vAdd w 0 (zIx 0 (tx (p + 1))) (tx (p + 2) - 48)) ∧ (tx p = 114 → sDo tx p w = vAdd w 1 (zIx 0 (tx (p + 1))) (tx (p + 2) - 48)) ∧ (tx p = 107 → sDo tx p w = vLike w (tx (p + 1) - 48) (tx (p + 2) - 48) (tx (p + 3) - 48)) ∧ (tx p = 111 → sDo tx p w = vOrd w (tx (p + 1) - 48) (tx (p + 2) - 48)) ∧ (¬ tx p = 108 ∧ ¬ tx p = 114 ∧ ¬ tx p = 107 ∧ ¬ tx p = 111 → sDo tx p w = vLaw w (tx (p + 1) - 48)) := by
  unfold sDo
  refine ⟨fun h => ?_, fun h => ?_, fun h => ?_, fun h => ?_, fun h => ?_⟩
  · rw [if_pos h]
  · rw [if_neg (by omega), if_pos h]
  · rw [if_neg (by omega), if_neg (by omega), if_pos h]
  · rw [if_neg (by omega), if_neg (by omega), if_neg (by omega), if_pos h]
  · rw [if_neg h.1, if_neg h.2.1, if_neg h.2.2.1, if_neg h.2.2.2]
/-- the texts' statements, one after another, as they are carried out -/
theorem sCar_go {tx : Int → Int} {n p k : Int} {v w : zVw} (hk : 0 ≤ k ∧ k ≤ p) (hp : p < n) (e : sCar tx n n.toNat 0 v = sCar tx n (n - k).toNat p w) (g : sGd tx p w) : sCar tx n n.toNat 0 v = sCar tx n (n - (k + 1)).toNat (sSta tx n p).2 (sDo tx p w) := by
  rw [e, sCar_s tx n p w (by omega), if_pos hp, if_pos (sGdb_t g)]
theorem sCar_no {tx : Int → Int} {n p k : Int} {v w : zVw} (hk : 0 ≤ k ∧ k ≤ p) (hp : p < n) (e : sCar tx n n.toNat 0 v = sCar tx n (n - k).toNat p w) (g : ¬ sGd tx p w) : sCar tx n n.toNat 0 v = (p, w) := by
  rw [e, sCar_s tx n p w (by omega), if_pos hp, if_neg (by rw [sGdb_f g]; intro q; cases q)]
theorem sCar_g {tx : Int → Int} {n p k : Int} {v w : zVw} (hp0 : 0 ≤ p) (hk : 0 ≤ k ∧ k ≤ p) (hp : p < n) (e : sCar tx n n.toNat 0 v = sCar tx n (n - k).toNat p w) (h : (sCar tx n n.toNat 0 v).1 = -9) : sGd tx p w := by
  by_cases g : sGd tx p w
  · exact g
  · rw [sCar_no hk hp e g] at h
    have h2 : p = -9 := h
    omega
theorem isT_end {tx : Int → Int} {n p k b : Int} (hb : b = 1 ∨ b = 0) (h0 : 0 ≤ p ∧ p ≤ n) (hk : 0 ≤ k ∧ (b = 1 → k ≤ p)) (h1 : b = 1 → sTxt tx n n.toNat 0 = sTxt tx n (n - k).toNat p) (h2 : b = 0 → n = 0 ∨ sTxt tx n n.toNat 0 = (false, p)) (hn : n = 0 → b = 0) (he : b = 0 ∨ n ≤ p) : (b = 1 ∧ sBad tx n = -9) ∨ (b = 0 ∧ sBad tx n = p ∧ 0 ≤ p ∧ p ≤ n) := by
  rcases hb with e | e
  · left
    refine ⟨e, ?_⟩
    have hn0 : n ≠ 0 := fun z => by have := hn z; omega
    have hp : ¬ p < n := by omega
    exact sBad_good hn0 ((h1 e).trans (sTxt_end hp))
  · right
    refine ⟨e, ?_, h0⟩
    by_cases z : n = 0
    · unfold sBad
      rw [if_pos z]
      omega
    · rcases h2 e with q | q
      · exact absurd q z
      · exact sBad_bad z q
theorem zGdR_k {c l r o t : Int} : (c = 108 → (zGdR c l r o t ↔ l < 5)) ∧ (c = 114 → (zGdR c l r o t ↔ r < 5)) ∧ (c = 107 → (zGdR c l r o t ↔ ((0 ≤ o ∧ o < l) ∨ (5 ≤ o ∧ o < 5 + r)) ∧ ((0 ≤ t ∧ t < l) ∨ (5 ≤ t ∧ t < 5 + r)) ∧ ¬ o / 5 = t / 5)) ∧ (c = 111 → (zGdR c l r o t ↔ (1 ≤ o ∧ o ≤ 4) ∧ t < 5)) ∧ (¬ c = 108 ∧ ¬ c = 114 ∧ ¬ c = 107 ∧ ¬ c = 111 → (zGdR c l r o t ↔ o < 4)) := by
  refine ⟨fun h => ⟨fun g => ?_, fun g => Or.inl ⟨h, g⟩⟩, fun h => ⟨fun g => ?_, fun g => Or.inr (Or.inl ⟨h, g⟩)⟩, fun h => ⟨fun g => ?_, fun g => Or.inr (Or.inr (Or.inl ⟨h, g⟩))⟩, fun h => ⟨fun g => ?_, fun g => Or.inr (Or.inr (Or.inr (Or.inl ⟨h, g⟩)))⟩, fun h => ⟨fun g => ?_, fun g => Or.inr (Or.inr (Or.inr (Or.inr ⟨h.1, h.2.1, h.2.2.1, h.2.2.2, g⟩)))⟩⟩
  · rcases g with g | g | g | g | g
    · exact g.2
    · omega
    · omega
    · omega
    · omega
  · rcases g with g | g | g | g | g
    · omega
    · exact g.2
    · omega
    · omega
    · omega
  · rcases g with g | g | g | g | g
    · exact absurd g.1 (by omega)
    · exact absurd g.1 (by omega)
    · exact g.2
    · exact absurd g.1 (by omega)
    · exact absurd h g.2.2.1
  · rcases g with g | g | g | g | g
    · exact absurd g.1 (by omega)
    · exact absurd g.1 (by omega)
    · exact absurd g.1 (by omega)
    · exact g.2
    · exact absurd h g.2.2.2.1
  · rcases g with g | g | g | g | g
    · exact absurd g.1 h.1
    · exact absurd g.1 h.2.1
    · exact absurd g.1 h.2.2.1
    · exact absurd g.1 h.2.2.2
    · exact g.2.2.2.2
theorem sGd_l {tx : Int → Int} {p : Int} {w : zVw} (g : sGdb tx p w = true) (h : tx p = 108) : vL w < 5 := by
  have g2 : sGd tx p w := of_decide_eq_true g
  rcases g2 with g | g | g | g | g
  · exact g.2
  · exact absurd g.1 (by omega)
  · exact absurd g.1 (by omega)
  · exact absurd g.1 (by omega)
  · exact absurd g.1 (by omega)
theorem sGd_r {tx : Int → Int} {p : Int} {w : zVw} (g : sGdb tx p w = true) (h : tx p = 114) : vR w < 5 := by
  have g2 : sGd tx p w := of_decide_eq_true g
  rcases g2 with g | g | g | g | g
  · exact absurd g.1 (by omega)
  · exact g.2
  · exact absurd g.1 (by omega)
  · exact absurd g.1 (by omega)
  · exact absurd g.1 (by omega)
theorem sGd_u {tx : Int → Int} {p : Int} {w : zVw} (g : sGdb tx p w = true) (h : tx p = 107) : zU (tx (p + 1) - 48) (tx (p + 2) - 48) := by
  have g2 : sGd tx p w := of_decide_eq_true g
  rcases g2 with g | g | g | g | g
  · exact absurd g.1 (by omega)
  · exact absurd g.1 (by omega)
  · exact g.2.2.2
  · exact absurd g.1 (by omega)
  · exact absurd g.1 (by omega)
theorem isT_0 {tx : Int → Int} {n r : Int} (hn : 0 ≤ n) (hr : (r = 1 ∧ (sSta tx n 0).1 = true) ∨ (r = 0 ∧ (sSta tx n 0).1 = false)) : (r = 1 → sTxt tx n n.toNat 0 = sTxt tx n (n - 1).toNat (sSta tx n 0).2) ∧ (r = 0 → n = 0 ∨ sTxt tx n n.toNat 0 = (false, (sSta tx n 0).2)) := by
  by_cases z : n = 0
  · refine ⟨fun h => ?_, fun _ => Or.inl z⟩
    rcases hr with ⟨-, a⟩ | ⟨a, -⟩
    · have := (sSta_ok a).1
      omega
    · omega
  · have h := isT_1 (tx := tx) (n := n) (p := 0) (k := 0) (r := r) (q := (sSta tx n 0).2) (by omega) (by omega) (by rw [Int.sub_zero]) hr rfl
    exact ⟨h.1, fun q => Or.inr (h.2 q)⟩
