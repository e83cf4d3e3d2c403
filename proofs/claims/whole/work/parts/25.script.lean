/-! contracts: the JDK's String over the texts; Script, what is read -/
theorem zshr_0 : ∀ x : Int, 0 ≤ x ∧ x ≤ 6 → zshr x 0 = x := by
  intro x h
  rcases (by omega : x = 0 ∨ x = 1 ∨ x = 2 ∨ x = 3 ∨ x = 4 ∨ x = 5 ∨ x = 6) with e | e | e | e | e | e | e <;> rw [e] <;> decide
theorem zTx_nar {i : Nat} (hi : i < 6) (k : Int) : narrow .char (.int (iI (zTx i k))) = .int (iI (zTx i k)) := by
  have h := zTx_b hi k
  obtain ⟨n, hn⟩ : ∃ n : Nat, zTx i k = (n : Int) := ⟨(zTx i k).toNat, by omega⟩
  rw [hn, show iI (n : Int) = nI n from Int32.ofInt_eq_ofNat]
  exact (pk_charN (by omega)).1
theorem zLn_5 (c : Int) : zLn (zFm c) = 0 ↔ zFm c = 5 := by
  have h := zFm_lt c
  generalize zFm c = i at *
  rcases (by omega : i = 0 ∨ i = 1 ∨ i = 2 ∨ i = 3 ∨ i = 4 ∨ i = 5) with e | e | e | e | e | e <;> subst e <;> decide
theorem zTx_b2 {i : Nat} (hi : i < 6) (k : Int) : 0 ≤ zTx i k ∧ zTx i k < 128 := by
  have h := zTx_b hi k
  omega
theorem sTxt_s (tx : Int → Int) (n p : Int) {k : Int} (h : k < n) : sTxt tx n (n - k).toNat p = if p < n then (if (sSta tx n p).1 = true then sTxt tx n (n - (k + 1)).toNat (sSta tx n p).2 else (false, (sSta tx n p).2)) else (true, p) := by
  rw [show (n - k).toNat = (n - (k + 1)).toNat + 1 by omega, sTxt]
theorem sTxt_bad {tx : Int → Int} {n p k q : Int} (h : k < n) (hp : p < n) (e : sSta tx n p = (false, q)) : sTxt tx n (n - k).toNat p = (false, q) := by
  rw [sTxt_s tx n p h, if_pos hp, e, if_neg (by intro q; cases q)]
theorem sTxt_go {tx : Int → Int} {n p k q : Int} (h : k < n) (hp : p < n) (e : sSta tx n p = (true, q)) : sTxt tx n (n - k).toNat p = sTxt tx n (n - (k + 1)).toNat q := by
  rw [sTxt_s tx n p h, if_pos hp, e, if_pos rfl]
theorem sTxt_end {tx : Int → Int} {n p : Int} {f : Nat} (hp : ¬ p < n) : sTxt tx n f p = (true, p) := by
  cases f with
  | zero => rfl
  | succ f => rw [sTxt, if_neg hp]
theorem sTxt_1 {tx : Int → Int} {n p k : Int} (h : k < n) (hp : p < n) (e : (sTxt tx n (n - k).toNat p).1 = true) : (sSta tx n p).1 = true ∧ (sTxt tx n (n - (k + 1)).toNat (sSta tx n p).2).1 = true := by
  rw [sTxt_s tx n p h, if_pos hp] at e
  by_cases q : (sSta tx n p).1 = true
  · rw [if_pos q] at e
    exact ⟨q, e⟩
  · rw [if_neg q] at e
    cases e
theorem sSta_no {tx : Int → Int} {n p : Int} (h : ¬ (p < n ∧ zFm (tx p) < 5)) : sSta tx n p = (false, p) := by
  unfold sSta
  rw [if_neg h]
theorem sBad_bad {tx : Int → Int} {n q : Int} (h : n ≠ 0) (e : sTxt tx n n.toNat 0 = (false, q)) : sBad tx n = q := by
  unfold sBad
  rw [if_neg h, e, if_neg (by intro q; cases q)]
theorem sBad_good {tx : Int → Int} {n q : Int} (h : n ≠ 0) (e : sTxt tx n n.toNat 0 = (true, q)) : sBad tx n = -9 := by
  unfold sBad
  rw [if_neg h, e, if_pos rfl]
theorem sBad_1 {tx : Int → Int} {n : Int} (h0 : 0 ≤ n) (h : sBad tx n = -9) : n ≠ 0 ∧ (sTxt tx n n.toNat 0).1 = true := by
  unfold sBad at h
  by_cases q : n = 0
  · rw [if_pos q] at h; omega
  rw [if_neg q] at h
  refine ⟨q, ?_⟩
  by_cases q2 : (sTxt tx n n.toNat 0).1 = true
  · exact q2
  exfalso
  rw [if_neg q2] at h
  have hge : ∀ (f : Nat) (p : Int), 0 ≤ p → 0 ≤ (sTxt tx n f p).2 := by
    intro f
    induction f with
    | zero => intro p hp; exact hp
    | succ f ih =>
      intro p hp
      have h2 : 0 ≤ (sSta tx n p).2 := by
        unfold sSta
        split
        · have := sScn_ge tx n (zFm (tx p)) (zLn (zFm (tx p))).toNat (p + 1) 0
          omega
        · exact hp
      rw [sTxt]
      split
      · split
        · exact ih _ h2
        · exact h2
      · exact hp
  have := hge n.toNat 0 (by omega)
  omega
set_option maxHeartbeats 4000000 in
theorem c_J0_coder_7d493 (l : Launch) (μ : zM) (i : Nat) (hi : i < 6) : zMi l yJ0_coder_7d493 cJ0_coder_7d493 1 (.byte) 0 0 [.inr (70 + i)] μ (fun (r : Int) (m : zM) => μ = m ∧ r = 0) := by
  refine zMi_ofF (own := RJ0) (by decide +kernel) rfl (Nat.le_of_ble_eq_true rfl) ?_
  intro X hX C hrm E
  subst hX
  show zJ X 1 μ 0 [(0, .inr (70 + i))] []
  refine z_gets C dJ0_coder_7d493_0 ?_
  refine z_if_eq C dJ0_coder_7d493_3 (tgt := 13) (by decide) (by decide) (fun c1 => (by exfalso; omega)) (fun _ => ?_)
  refine z_aload_n C dJ0_coder_7d493_6 0 rfl ?_
  refine z_strC C hi dJ0_coder_7d493_7 ?_
  refine z_goto C dJ0_coder_7d493_10 (tgt := 14) (by decide) ?_
  exact E dJ0_coder_7d493_14 (by decide) (by decide) ⟨rfl, rfl⟩
set_option maxHeartbeats 4000000 in
theorem c_J0_isLatin1_aae02 (l : Launch) (μ : zM) (i : Nat) (hi : i < 6) : zMi l yJ0_isLatin1_aae02 cJ0_isLatin1_aae02 1 (.boolean) 0 0 [.inr (70 + i)] μ (fun (r : Int) (m : zM) => μ = m ∧ (True ∧ r = 1)) := by
  refine zMi_ofF (own := RJ0) (by decide +kernel) rfl (Nat.le_of_ble_eq_true rfl) ?_
  intro X hX C hrm E
  subst hX
  show zJ X 1 μ 0 [(0, .inr (70 + i))] []
  refine z_gets C dJ0_isLatin1_aae02_0 ?_
  refine z_if_eq C dJ0_isLatin1_aae02_3 (tgt := 17) (by decide) (by decide) (fun c1 => (by exfalso; omega)) (fun _ => ?_)
  refine z_aload_n C dJ0_isLatin1_aae02_6 0 rfl ?_
  refine z_strC C hi dJ0_isLatin1_aae02_7 ?_
  refine z_if_ne C dJ0_isLatin1_aae02_10 (tgt := 17) (by decide) (by decide) (fun c2 => (by exfalso; omega)) (fun _ => ?_)
  refine z_iconst C dJ0_isLatin1_aae02_13 ?_
  refine z_goto C dJ0_isLatin1_aae02_14 (tgt := 18) (by decide) ?_
  exact E dJ0_isLatin1_aae02_18 (by decide) (z_nb (Or.inr rfl)) ⟨rfl, trivial, rfl⟩
set_option maxHeartbeats 4000000 in
theorem c_J0_length_8abf5 (l : Launch) (μ : zM) (i : Nat) (hi : i < 6) : zMi l yJ0_length_8abf5 cJ0_length_8abf5 1 (.int) 1 20 [.inr (70 + i)] μ (fun (r : Int) (m : zM) => μ = m ∧ r = zLn i) := by
  refine zMi_ofF (own := RJ0) (by decide +kernel) rfl (Nat.le_of_ble_eq_true rfl) ?_
  intro X hX C hrm E
  subst hX
  show zJ X 1 μ 0 [(0, .inr (70 + i))] []
  have hlb := zLn_b i hi
  refine z_aload_n C dJ0_length_8abf5_0 0 rfl ?_
  refine z_strV C hi dJ0_length_8abf5_1 ?_
  refine z_alenT C hi dJ0_length_8abf5_4 ?_
  refine z_aload_n C dJ0_length_8abf5_5 0 rfl ?_
  refine z_callVi C (c_J0_coder_7d493 (zl X) μ i hi) yyJ0_coder_7d493 mlJ0_335 (zRc_str C hi) dJ0_length_8abf5_6 rfl rfl (Nat.le_of_ble_eq_true rfl) (by decide) (fun r1 m1 hr1 hp1 => ?_)
  obtain ⟨rfl, hp1⟩ := hp1
  subst hp1
  refine z_ishr C dJ0_length_8abf5_9 ?_
  rw [zshr_0 (zLn i) (by omega)]
  exact E dJ0_length_8abf5_10 (by omega) rfl ⟨rfl, rfl⟩
set_option maxHeartbeats 4000000 in
theorem c_J0_isEmpty_aae02 (l : Launch) (μ : zM) (i : Nat) (hi : i < 6) : zMi l yJ0_isEmpty_aae02 cJ0_isEmpty_aae02 1 (.boolean) 0 0 [.inr (70 + i)] μ (fun (r : Int) (m : zM) => μ = m ∧ ((r = 1 ∧ (zLn i = 0)) ∨ (r = 0 ∧ ¬ (zLn i = 0)))) := by
  refine zMi_ofF (own := RJ0) (by decide +kernel) rfl (Nat.le_of_ble_eq_true rfl) ?_
  intro X hX C hrm E
  subst hX
  show zJ X 1 μ 0 [(0, .inr (70 + i))] []
  have hlb := zLn_b i hi
  refine z_aload_n C dJ0_isEmpty_aae02_0 0 rfl ?_
  refine z_strV C hi dJ0_isEmpty_aae02_1 ?_
  refine z_alenT C hi dJ0_isEmpty_aae02_4 ?_
  refine z_if_ne C dJ0_isEmpty_aae02_5 (tgt := 12) (by decide) (by omega) (fun c1 => ?_) (fun c1 => ?_)
  · refine z_iconst C dJ0_isEmpty_aae02_12 ?_
    exact E dJ0_isEmpty_aae02_13 (by decide) (z_nb (Or.inl rfl)) ⟨rfl, Or.inr ⟨rfl, by omega⟩⟩
  · refine z_iconst C dJ0_isEmpty_aae02_8 ?_
    refine z_goto C dJ0_isEmpty_aae02_9 (tgt := 13) (by decide) ?_
    exact E dJ0_isEmpty_aae02_13 (by decide) (z_nb (Or.inr rfl)) ⟨rfl, Or.inl ⟨rfl, by omega⟩⟩
set_option maxHeartbeats 4000000 in
theorem c_J1_charAt_3b067 (l : Launch) (μ : zM) (i : Nat) (hi : i < 6) (k : Int) (hk : 0 ≤ k ∧ k < zLn i) : zMi l yJ1_charAt_3b067 cJ1_charAt_3b067 2 (.char) 2 43 [.inr (80 + i), .inl k] μ (fun (r : Int) (m : zM) => μ = m ∧ r = zTx i k) := by
  refine zMi_ofF (own := RJ1) (by decide +kernel) rfl (Nat.le_of_ble_eq_true rfl) ?_
  intro X hX C hrm E
  subst hX
  show zJ X 2 μ 0 [(0, .inr (80 + i)), (1, .inl k)] []
  have hlb := zLn_b i hi
  have htb := zTx_b hi k
  refine z_iload_n C dJ1_charAt_3b067_0 1 rfl ?_
  refine z_aload_n C dJ1_charAt_3b067_1 0 rfl ?_
  refine z_alenT C hi dJ1_charAt_3b067_2 ?_
  refine z_callSv C (c_J0_checkIndex_df160 (zl X) μ k (zLn i) (by omega)) yyJ0_checkIndex_df160 mlJ1_9 dJ1_charAt_3b067_3 rfl rfl (Nat.le_of_ble_eq_true rfl) (by decide) (fun m1 hp1 => ?_)
  subst hp1
  refine z_aload_n C dJ1_charAt_3b067_6 0 rfl ?_
  refine z_iload_n C dJ1_charAt_3b067_7 1 rfl ?_
  refine z_baldT C hi dJ1_charAt_3b067_8 (by omega) ?_
  refine z_sipush C dJ1_charAt_3b067_9 (by decide) ?_
  refine z_iand C dJ1_charAt_3b067_12 ?_
  rw [zand255 (zTx i k) htb.1 htb.2]
  refine z_i2c C dJ1_charAt_3b067_13 (by omega) ?_
  exact E dJ1_charAt_3b067_14 (by omega) (by exact zTx_nar hi k) ⟨rfl, rfl⟩
set_option maxHeartbeats 4000000 in
theorem c_J0_charAt_5068e (l : Launch) (μ : zM) (i : Nat) (hi : i < 6) (k : Int) (hk : 0 ≤ k ∧ k < zLn i) : zMi l yJ0_charAt_5068e cJ0_charAt_5068e 2 (.char) 3 64 [.inr (70 + i), .inl k] μ (fun (r : Int) (m : zM) => μ = m ∧ r = zTx i k) := by
  refine zMi_ofF (own := RJ0) (by decide +kernel) rfl (Nat.le_of_ble_eq_true rfl) ?_
  intro X hX C hrm E
  subst hX
  show zJ X 2 μ 0 [(0, .inr (70 + i)), (1, .inl k)] []
  have hlb := zLn_b i hi
  have htb := zTx_b hi k
  refine z_aload_n C dJ0_charAt_5068e_0 0 rfl ?_
  refine z_callVi C (c_J0_isLatin1_aae02 (zl X) μ i hi) yyJ0_isLatin1_aae02 mlJ0_492 (zRc_str C hi) dJ0_charAt_5068e_1 rfl rfl (Nat.le_of_ble_eq_true rfl) (by decide) (fun r1 m1 hr1 hp1 => ?_)
  obtain ⟨rfl, hp1⟩ := hp1
  obtain ⟨-, rfl⟩ := hp1
  refine z_if_eq C dJ0_charAt_5068e_4 (tgt := 16) (by decide) (by decide) (fun c2 => (by exfalso; omega)) (fun _ => ?_)
  refine z_aload_n C dJ0_charAt_5068e_7 0 rfl ?_
  refine z_strV C hi dJ0_charAt_5068e_8 ?_
  refine z_iload_n C dJ0_charAt_5068e_11 1 rfl ?_
  refine z_callSi C (c_J1_charAt_3b067 (zl X) μ i hi k (by omega)) yyJ1_charAt_3b067 mlJ0_495 dJ0_charAt_5068e_12 rfl rfl (Nat.le_of_ble_eq_true rfl) (by decide) (fun r3 m3 hr3 hp3 => ?_)
  obtain ⟨rfl, hp3⟩ := hp3
  rw [hp3]
  exact E dJ0_charAt_5068e_15 (by omega) (by exact zTx_nar hi k) ⟨rfl, rfl⟩
set_option maxHeartbeats 4000000 in
theorem c_J1_canEncode_9a6ad (l : Launch) (μ : zM) (c : Int) (hc : zR c) : zMi l yJ1_canEncode_9a6ad cJ1_canEncode_9a6ad 1 (.boolean) 0 0 [.inl c] μ (fun (r : Int) (m : zM) => μ = m ∧ ((r = 1 ∧ (0 ≤ c ∧ c ≤ 255)) ∨ (r = 0 ∧ ¬ (0 ≤ c ∧ c ≤ 255)))) := by
  refine zMi_ofF (own := RJ1) (by decide +kernel) rfl (Nat.le_of_ble_eq_true rfl) ?_
  intro X hX C hrm E
  subst hX
  show zJ X 1 μ 0 [(0, .inl c)] []
  refine z_iload_n C dJ1_canEncode_9a6ad_0 0 rfl ?_
  refine z_if_lt C dJ1_canEncode_9a6ad_1 (tgt := 15) (by decide) (by omega) (fun c1 => ?_) (fun c1 => ?_)
  · refine z_iconst C dJ1_canEncode_9a6ad_15 ?_
    exact E dJ1_canEncode_9a6ad_16 (by decide) (z_nb (Or.inl rfl)) ⟨rfl, Or.inr ⟨rfl, by omega⟩⟩
  · refine z_iload_n C dJ1_canEncode_9a6ad_4 0 rfl ?_
    refine z_sipush C dJ1_canEncode_9a6ad_5 (by decide) ?_
    refine z_icmp_gt C dJ1_canEncode_9a6ad_8 (tgt := 15) (by decide) (by omega) (by decide) (fun c2 => ?_) (fun c2 => ?_)
    · refine z_iconst C dJ1_canEncode_9a6ad_15 ?_
      exact E dJ1_canEncode_9a6ad_16 (by decide) (z_nb (Or.inl rfl)) ⟨rfl, Or.inr ⟨rfl, by omega⟩⟩
    · refine z_iconst C dJ1_canEncode_9a6ad_11 ?_
      refine z_goto C dJ1_canEncode_9a6ad_12 (tgt := 16) (by decide) ?_
      exact E dJ1_canEncode_9a6ad_16 (by decide) (z_nb (Or.inr rfl)) ⟨rfl, Or.inl ⟨rfl, by omega⟩⟩
set_option maxHeartbeats 4000000 in
theorem c_J1_indexOfChar_4cfef (l : Launch) (μ : zM) (i : Nat) (hi : i < 6) (c : Int) (hc : 0 ≤ c ∧ c < 256) : zMi l yJ1_indexOfChar_4cfef cJ1_indexOfChar_4cfef 6 (.int) 0 0 [.inr (80 + i), .inl c, .inl 0, .inl (zLn i)] μ (fun (r : Int) (m : zM) => μ = m ∧ r = zIx i c) := by
  refine zMi_ofF (own := RJ1) (by decide +kernel) rfl (Nat.le_of_ble_eq_true rfl) ?_
  intro X hX C hrm E
  subst hX
  show zJ X 6 μ 0 [(0, .inr (80 + i)), (1, .inl c), (2, .inl 0), (3, .inl (zLn i))] []
  have hlb := zLn_b i hi
  have hcb := zI2b_eq c hc.1 hc.2 0 (by omega) (by omega)
  refine z_iload_n C dJ1_indexOfChar_4cfef_0 1 rfl ?_
  refine z_i2b C dJ1_indexOfChar_4cfef_1 ?_
  refine z_istore C dJ1_indexOfChar_4cfef_2 (by decide) (L' := [(0, _), (1, _), (2, _), (3, _), (4, _)]) rfl ?_
  refine z_iload_n C dJ1_indexOfChar_4cfef_4 2 rfl ?_
  refine z_istore C dJ1_indexOfChar_4cfef_5 (by decide) (L' := [(0, _), (1, _), (2, _), (3, _), (4, _), (5, _)]) rfl ?_
  have LP7 : ∀ (N7 : Nat) (k : Int), (0 ≤ k) → (k ≤ zLn i) → (zIx i c = zIxF i c (zLn i - k).toNat k) → (6 - k).toNat < N7 → zJ X 6 μ 7 [(0, .inr (80 + i)), (1, .inl c), (2, .inl 0), (3, .inl (zLn i)), (4, .inl (zI2b c)), (5, .inl k)] [] := by
    intro N7
    induction N7 with
    | zero => intro k h7_0 h7_1 h7_2 hN; exact absurd hN (Nat.not_lt_zero _)
    | succ N7 ih7 =>
      intro k h7_0 h7_1 h7_2 hN7
      have htb := zTx_b hi k
      have heq := zI2b_eq c hc.1 hc.2 (zTx i k) htb.1 htb.2
      refine z_iload C dJ1_indexOfChar_4cfef_7 5 rfl ?_
      refine z_iload_n C dJ1_indexOfChar_4cfef_9 3 rfl ?_
      refine z_icmp_ge C dJ1_indexOfChar_4cfef_10 (tgt := 31) (by decide) (by omega) (by omega) (fun c1 => ?_) (fun c1 => ?_)
      · refine z_iconst C dJ1_indexOfChar_4cfef_31 ?_
        exact E dJ1_indexOfChar_4cfef_32 (by decide) rfl ⟨rfl, (by rw [h7_2, show (zLn i - k).toNat = 0 by omega]; rfl)⟩
      · refine z_aload_n C dJ1_indexOfChar_4cfef_13 0 rfl ?_
        refine z_iload C dJ1_indexOfChar_4cfef_14 5 rfl ?_
        refine z_baldT C hi dJ1_indexOfChar_4cfef_16 (by omega) ?_
        refine z_iload C dJ1_indexOfChar_4cfef_17 4 rfl ?_
        refine z_icmp_ne C dJ1_indexOfChar_4cfef_19 (tgt := 25) (by decide) (by omega) (by omega) (fun c2 => ?_) (fun c2 => ?_)
        · refine z_iinc C dJ1_indexOfChar_4cfef_25 5 rfl (by decide) (L' := [(0, _), (1, _), (2, _), (3, _), (4, _), (5, _)]) rfl ?_
          refine z_goto C dJ1_indexOfChar_4cfef_28 (tgt := 7) (by decide) ?_
          exact ih7 _ (by omega) (by omega) (by rw [h7_2, zIxF_s i c (by omega), if_neg (by omega)]) (by omega)
        · refine z_iload C dJ1_indexOfChar_4cfef_22 5 rfl ?_
          exact E dJ1_indexOfChar_4cfef_24 (by omega) rfl ⟨rfl, (by rw [h7_2, zIxF_s i c (by omega), if_pos (by omega)])⟩
  exact LP7 _ 0 (by omega) (by omega) (by unfold zIx; rw [Int.sub_zero]) (Nat.lt_succ_self _)
set_option maxHeartbeats 4000000 in
theorem c_J1_indexOf_4cfef (l : Launch) (μ : zM) (i : Nat) (hi : i < 6) (hl : 1 ≤ zLn i) (c : Int) (hc : zR c) : zMi l yJ1_indexOf_4cfef cJ1_indexOf_4cfef 4 (.int) 1 25 [.inr (80 + i), .inl c, .inl 0, .inl (zLn i)] μ (fun (r : Int) (m : zM) => μ = m ∧ r = zIx i c) := by
  refine zMi_ofF (own := RJ1) (by decide +kernel) rfl (Nat.le_of_ble_eq_true rfl) ?_
  intro X hX C hrm E
  subst hX
  show zJ X 4 μ 0 [(0, .inr (80 + i)), (1, .inl c), (2, .inl 0), (3, .inl (zLn i))] []
  have hlb := zLn_b i hi
  have hib := zIx_b hi c
  refine z_iload_n C dJ1_indexOf_4cfef_0 1 rfl ?_
  refine z_callSi C (c_J1_canEncode_9a6ad (zl X) μ c (by omega)) yyJ1_canEncode_9a6ad mlJ1_88 dJ1_indexOf_4cfef_1 rfl rfl (Nat.le_of_ble_eq_true rfl) (by decide) (fun r1 m1 hr1 hp1 => ?_)
  obtain ⟨rfl, hp1⟩ := hp1
  rcases hp1 with ⟨rfl, hp1⟩ | ⟨rfl, hp1⟩
  · refine z_if_ne C dJ1_indexOf_4cfef_4 (tgt := 9) (by decide) (by decide) (fun _ => ?_) (fun c2 => (by exfalso; omega))
    refine z_iload_n C dJ1_indexOf_4cfef_9 2 rfl ?_
    refine z_iconst C dJ1_indexOf_4cfef_10 ?_
    refine z_callSi C (c_J9_max_7cf53 (zl X) μ 0 0 (by omega) (by omega)) yyJ9_max_7cf53 mlJ1_92 dJ1_indexOf_4cfef_11 rfl rfl (Nat.le_of_ble_eq_true rfl) (by decide) (fun r3 m3 hr3 hp3 => ?_)
    obtain ⟨rfl, hp3⟩ := hp3
    have e0 : r3 = 0 := by omega
    subst e0
    refine z_istore_n C dJ1_indexOf_4cfef_14 (by decide) (L' := [(0, _), (1, _), (2, _), (3, _)]) rfl ?_
    refine z_iload_n C dJ1_indexOf_4cfef_15 3 rfl ?_
    refine z_aload_n C dJ1_indexOf_4cfef_16 0 rfl ?_
    refine z_alenT C hi dJ1_indexOf_4cfef_17 ?_
    refine z_callSi C (c_J9_min_7cf53 (zl X) μ (zLn i) (zLn i) (by omega) (by omega)) yyJ9_min_7cf53 mlJ1_38 dJ1_indexOf_4cfef_18 rfl rfl (Nat.le_of_ble_eq_true rfl) (by decide) (fun r4 m4 hr4 hp4 => ?_)
    obtain ⟨rfl, hp4⟩ := hp4
    have e1 : r4 = zLn i := by omega
    subst e1
    refine z_istore_n C dJ1_indexOf_4cfef_21 (by decide) (L' := [(0, _), (1, _), (2, _), (3, _)]) rfl ?_
    refine z_iload_n C dJ1_indexOf_4cfef_22 2 rfl ?_
    refine z_iload_n C dJ1_indexOf_4cfef_23 3 rfl ?_
    refine z_icmp_lt C dJ1_indexOf_4cfef_24 (tgt := 29) (by decide) (by decide) (by omega) (fun _ => ?_) (fun c5 => (by exfalso; omega))
    refine z_aload_n C dJ1_indexOf_4cfef_29 0 rfl ?_
    refine z_iload_n C dJ1_indexOf_4cfef_30 1 rfl ?_
    refine z_iload_n C dJ1_indexOf_4cfef_31 2 rfl ?_
    refine z_iload_n C dJ1_indexOf_4cfef_32 3 rfl ?_
    refine z_callSi C (c_J1_indexOfChar_4cfef (zl X) μ i hi c (by omega)) yyJ1_indexOfChar_4cfef mlJ1_95 dJ1_indexOf_4cfef_33 rfl rfl (Nat.le_of_ble_eq_true rfl) (by decide) (fun r6 m6 hr6 hp6 => ?_)
    obtain ⟨rfl, hp6⟩ := hp6
    rw [hp6]
    exact E dJ1_indexOf_4cfef_36 (by omega) rfl ⟨rfl, rfl⟩
  · refine z_if_ne C dJ1_indexOf_4cfef_4 (tgt := 9) (by decide) (by decide) (fun c7 => (by exfalso; omega)) (fun _ => ?_)
    refine z_iconst C dJ1_indexOf_4cfef_7 ?_
    exact E dJ1_indexOf_4cfef_8 (by decide) rfl ⟨rfl, (zIx_out hi (by omega)).symm⟩
set_option maxHeartbeats 4000000 in
theorem c_J0_indexOf_7cf53 (l : Launch) (μ : zM) (i : Nat) (hi : i < 6) (hl : 1 ≤ zLn i) (c : Int) (hc : zR c) : zMi l yJ0_indexOf_7cf53 cJ0_indexOf_7cf53 3 (.int) 2 48 [.inr (70 + i), .inl c, .inl 0] μ (fun (r : Int) (m : zM) => μ = m ∧ r = zIx i c) := by
  refine zMi_ofF (own := RJ0) (by decide +kernel) rfl (Nat.le_of_ble_eq_true rfl) ?_
  intro X hX C hrm E
  subst hX
  show zJ X 3 μ 0 [(0, .inr (70 + i)), (1, .inl c), (2, .inl 0)] []
  have hlb := zLn_b i hi
  have hib := zIx_b hi c
  refine z_aload_n C dJ0_indexOf_7cf53_0 0 rfl ?_
  refine z_callVi C (c_J0_isLatin1_aae02 (zl X) μ i hi) yyJ0_isLatin1_aae02 mlJ0_492 (zRc_str C hi) dJ0_indexOf_7cf53_1 rfl rfl (Nat.le_of_ble_eq_true rfl) (by decide) (fun r1 m1 hr1 hp1 => ?_)
  obtain ⟨rfl, hp1⟩ := hp1
  obtain ⟨-, rfl⟩ := hp1
  refine z_if_eq C dJ0_indexOf_7cf53_4 (tgt := 23) (by decide) (by decide) (fun c2 => (by exfalso; omega)) (fun _ => ?_)
  refine z_aload_n C dJ0_indexOf_7cf53_7 0 rfl ?_
  refine z_strV C hi dJ0_indexOf_7cf53_8 ?_
  refine z_iload_n C dJ0_indexOf_7cf53_11 1 rfl ?_
  refine z_iload_n C dJ0_indexOf_7cf53_12 2 rfl ?_
  refine z_aload_n C dJ0_indexOf_7cf53_13 0 rfl ?_
  refine z_callVi C (c_J0_length_8abf5 (zl X) μ i hi) yyJ0_length_8abf5 mlJ0_505 (zRc_str C hi) dJ0_indexOf_7cf53_14 rfl rfl (Nat.le_of_ble_eq_true rfl) (by decide) (fun r3 m3 hr3 hp3 => ?_)
  obtain ⟨rfl, hp3⟩ := hp3
  rw [hp3]
  refine z_callSi C (c_J1_indexOf_4cfef (zl X) μ i hi hl c hc) yyJ1_indexOf_4cfef mlJ0_637 dJ0_indexOf_7cf53_17 rfl rfl (Nat.le_of_ble_eq_true rfl) (by decide) (fun r4 m4 hr4 hp4 => ?_)
  obtain ⟨rfl, hp4⟩ := hp4
  rw [hp4]
  refine z_goto C dJ0_indexOf_7cf53_20 (tgt := 36) (by decide) ?_
  exact E dJ0_indexOf_7cf53_36 (by omega) rfl ⟨rfl, rfl⟩
set_option maxHeartbeats 4000000 in
theorem c_J0_indexOf_0f7a4 (l : Launch) (μ : zM) (i : Nat) (hi : i < 6) (hl : 1 ≤ zLn i) (c : Int) (hc : zR c) : zMi l yJ0_indexOf_0f7a4 cJ0_indexOf_0f7a4 2 (.int) 3 70 [.inr (70 + i), .inl c] μ (fun (r : Int) (m : zM) => μ = m ∧ r = zIx i c) := by
  refine zMi_ofF (own := RJ0) (by decide +kernel) rfl (Nat.le_of_ble_eq_true rfl) ?_
  intro X hX C hrm E
  subst hX
  show zJ X 2 μ 0 [(0, .inr (70 + i)), (1, .inl c)] []
  have hib := zIx_b hi c
  refine z_aload_n C dJ0_indexOf_0f7a4_0 0 rfl ?_
  refine z_iload_n C dJ0_indexOf_0f7a4_1 1 rfl ?_
  refine z_iconst C dJ0_indexOf_0f7a4_2 ?_
  refine z_callVi C (c_J0_indexOf_7cf53 (zl X) μ i hi hl c hc) yyJ0_indexOf_7cf53 mlJ0_633 (zRc_str C hi) dJ0_indexOf_0f7a4_3 rfl rfl (Nat.le_of_ble_eq_true rfl) (by decide) (fun r1 m1 hr1 hp1 => ?_)
  obtain ⟨rfl, hp1⟩ := hp1
  rw [hp1]
  exact E dJ0_indexOf_0f7a4_6 (by omega) rfl ⟨rfl, rfl⟩
set_option maxHeartbeats 4000000 in
theorem c_X3_isFull (l : Launch) (μ : zM) (tx : Int → Int) (n : Int) (hx : zLt μ tx n) : zMi l yX3_isFull cX3_isFull 1 (.boolean) 0 0 [.inr 16] μ (fun (r : Int) (m : zM) => μ = m ∧ ((r = 1 ∧ (96 ≤ n)) ∨ (r = 0 ∧ ¬ (96 ≤ n)))) := by
  refine zMi_of (own := RX3) (by decide +kernel) rfl (Nat.le_of_ble_eq_true rfl) ?_
  intro X hX C hrm E
  subst hX
  show zJ X 1 μ 0 [(0, .inr 16)] []
  obtain ⟨x1, x2, x3⟩ := id hx
  refine z_aload_n C dX3_isFull_0 0 rfl ?_
  refine z_getI C ffX3_15 dX3_isFull_1 (by decide) rfl rfl 1 rfl (fun hr1 => ?_)
  refine z_bipush C dX3_isFull_4 (by decide) ?_
  refine z_icmp_lt C dX3_isFull_6 (tgt := 13) (by decide) (by omega) (by decide) (fun c2 => ?_) (fun c2 => ?_)
  · refine z_iconst C dX3_isFull_13 ?_
    exact E dX3_isFull_14 (by decide) (z_nb (Or.inl rfl)) ⟨rfl, Or.inr ⟨rfl, by omega⟩⟩
  · refine z_iconst C dX3_isFull_9 ?_
    refine z_goto C dX3_isFull_10 (tgt := 14) (by decide) ?_
    exact E dX3_isFull_14 (by decide) (z_nb (Or.inr rfl)) ⟨rfl, Or.inl ⟨rfl, by omega⟩⟩
set_option maxHeartbeats 4000000 in
theorem c_X3_add (l : Launch) (μ : zM) (tx : Int → Int) (n : Int) (hx : zLt μ tx n) (c : Int) (hc : 0 ≤ c ∧ c ≤ 255) (hn : n < 96) : zMi l yX3_add cX3_add 2 (.int) 1 20 [.inr 16, .inl c] μ (fun (r : Int) (m : zM) => r = n + 1 ∧ m = zs (zs μ 17 n c) 16 1 (n + 1)) := by
  refine zMi_of (own := RX3) (by decide +kernel) rfl (Nat.le_of_ble_eq_true rfl) ?_
  intro X hX C hrm E
  subst hX
  show zJ X 2 μ 0 [(0, .inr 16), (1, .inl c)] []
  obtain ⟨x1, x2, x3⟩ := id hx
  refine z_aload_n C dX3_add_0 0 rfl ?_
  refine z_callVi C (c_X3_isFull (zl X) μ tx n hx) yyX3_isFull mlX3_19 (zRc_of (i := 16) C (by decide) rfl rfl) dX3_add_1 rfl rfl (Nat.le_of_ble_eq_true rfl) (by decide) (fun r1 m1 hr1 hp1 => ?_)
  obtain ⟨rfl, hp1⟩ := hp1
  rcases hp1 with ⟨rfl, hp1⟩ | ⟨rfl, hp1⟩
  · exfalso; omega
  · skip
    refine z_if_ne C dX3_add_4 (tgt := 27) (by decide) (by decide) (fun c2 => (by exfalso; omega)) (fun _ => ?_)
    refine z_aload_n C dX3_add_7 0 rfl ?_
    refine z_getR C ffX3_11 dX3_add_8 (by decide) rfl rfl ?_
    refine z_aload_n C dX3_add_11 0 rfl ?_
    refine z_getI C ffX3_15 dX3_add_12 (by decide) rfl rfl 1 rfl (fun hr3 => ?_)
    rw [x1]
    refine z_iload_n C dX3_add_15 1 rfl ?_
    refine z_iast C dX3_add_16 (by decide) rfl (by omega) (by decide) (by omega) ?_
    refine z_mem (fun m4 em4 => ?_)
    refine z_aload_n C dX3_add_17 0 rfl ?_
    refine z_dup C dX3_add_18 ?_
    refine z_getI C ffX3_15 dX3_add_19 (by decide) rfl rfl 1 rfl (fun hr5 => ?_)
    rw [show m4 16 1 = n by rw [em4, zs_ne _ _ _ (by decide)]; exact x1]
    refine z_iconst C dX3_add_22 ?_
    refine z_iadd C dX3_add_23 ?_
    refine z_putI C ffX3_15 fp3_1 dX3_add_24 (by decide) rfl rfl 1 rfl (by omega) ?_
    refine z_mem (fun m6 em6 => ?_)
    refine z_aload_n C dX3_add_27 0 rfl ?_
    refine z_getI C ffX3_15 dX3_add_28 (by decide) rfl rfl 1 rfl (fun hr7 => ?_)
    rw [show m6 16 1 = n + 1 by rw [em6, zs_self]]
    exact E dX3_add_31 (by omega) rfl ⟨rfl, (by rw [em6, em4])⟩
set_option maxHeartbeats 4000000 in
theorem c_X3_forget (l : Launch) (μ : zM)  : zMv l yX3_forget cX3_forget 1 0 0 [.inr 16] μ (fun (m : zM) => m = zs μ 16 1 0) := by
  refine zMv_of (own := RX3) (by decide +kernel) rfl (Nat.le_of_ble_eq_true rfl) ?_
  intro X hX C hrm E
  subst hX
  show zJ X 1 μ 0 [(0, .inr 16)] []
  refine z_aload_n C dX3_forget_0 0 rfl ?_
  refine z_iconst C dX3_forget_1 ?_
  refine z_putI C ffX3_15 fp3_1 dX3_forget_2 (by decide) rfl rfl 1 rfl (by decide) ?_
  refine z_mem (fun m1 em1 => ?_)
  exact E dX3_forget_5 (by assumption)
set_option maxHeartbeats 4000000 in
theorem c_X3_formBehind (l : Launch) (μ : zM) (c : Int) (hc : zR c) : zMr l yX3_formBehind cX3_formBehind 1 (.object "java/lang/String") 0 0 [.inl c] μ (fun (r : Nat) (m : zM) => μ = m ∧ r = 70 + zFm c) := by
  refine zMr_of (own := RX3) (by decide +kernel) rfl (Nat.le_of_ble_eq_true rfl) ?_
  intro X hX C hrm E
  subst hX
  show zJ X 1 μ 0 [(0, .inl c)] []
  refine z_iload_n C dX3_formBehind_0 0 rfl ?_
  by_cases e1_0 : c = 107
  · refine z_tabIn C dX3_formBehind_1 (by omega) 0 (by omega) (by omega) (off := 73) (tgt := 74) rfl (by decide) ?_
    refine z_ldcS C (i := 2) (tx := "DDD;") dX3_formBehind_74 (by decide) ?_
    exact E dX3_formBehind_76 ⟨rfl, (by unfold zFm; simp [*] <;> omega)⟩
  by_cases e1_1 : c = 108
  · refine z_tabIn C dX3_formBehind_1 (by omega) 1 (by omega) (by omega) (off := 67) (tgt := 68) rfl (by decide) ?_
    refine z_ldcS C (i := 1) (tx := "KD;") dX3_formBehind_68 (by decide) ?_
    exact E dX3_formBehind_70 ⟨rfl, (by unfold zFm; simp [*] <;> omega)⟩
  by_cases e1_2 : c = 109
  · refine z_tabIn C dX3_formBehind_1 (by omega) 2 (by omega) (by omega) (off := 82) (tgt := 83) rfl (by decide) ?_
    refine z_ldcS C (i := 5) (tx := "") dX3_formBehind_83 (by decide) ?_
    exact E dX3_formBehind_85 ⟨rfl, (by unfold zFm; simp [*] <;> omega)⟩
  by_cases e1_3 : c = 110
  · refine z_tabIn C dX3_formBehind_1 (by omega) 3 (by omega) (by omega) (off := 82) (tgt := 83) rfl (by decide) ?_
    refine z_ldcS C (i := 5) (tx := "") dX3_formBehind_83 (by decide) ?_
    exact E dX3_formBehind_85 ⟨rfl, (by unfold zFm; simp [*] <;> omega)⟩
  by_cases e1_4 : c = 111
  · refine z_tabIn C dX3_formBehind_1 (by omega) 4 (by omega) (by omega) (off := 76) (tgt := 77) rfl (by decide) ?_
    refine z_ldcS C (i := 3) (tx := "DD;") dX3_formBehind_77 (by decide) ?_
    exact E dX3_formBehind_79 ⟨rfl, (by unfold zFm; simp [*] <;> omega)⟩
  by_cases e1_5 : c = 112
  · refine z_tabIn C dX3_formBehind_1 (by omega) 5 (by omega) (by omega) (off := 82) (tgt := 83) rfl (by decide) ?_
    refine z_ldcS C (i := 5) (tx := "") dX3_formBehind_83 (by decide) ?_
    exact E dX3_formBehind_85 ⟨rfl, (by unfold zFm; simp [*] <;> omega)⟩
  by_cases e1_6 : c = 113
  · refine z_tabIn C dX3_formBehind_1 (by omega) 6 (by omega) (by omega) (off := 82) (tgt := 83) rfl (by decide) ?_
    refine z_ldcS C (i := 5) (tx := "") dX3_formBehind_83 (by decide) ?_
    exact E dX3_formBehind_85 ⟨rfl, (by unfold zFm; simp [*] <;> omega)⟩
  by_cases e1_7 : c = 114
  · refine z_tabIn C dX3_formBehind_1 (by omega) 7 (by omega) (by omega) (off := 70) (tgt := 71) rfl (by decide) ?_
    refine z_ldcS C (i := 1) (tx := "KD;") dX3_formBehind_71 (by decide) ?_
    exact E dX3_formBehind_73 ⟨rfl, (by unfold zFm; simp [*] <;> omega)⟩
  by_cases e1_8 : c = 115
  · refine z_tabIn C dX3_formBehind_1 (by omega) 8 (by omega) (by omega) (off := 82) (tgt := 83) rfl (by decide) ?_
    refine z_ldcS C (i := 5) (tx := "") dX3_formBehind_83 (by decide) ?_
    exact E dX3_formBehind_85 ⟨rfl, (by unfold zFm; simp [*] <;> omega)⟩
  by_cases e1_9 : c = 116
  · refine z_tabIn C dX3_formBehind_1 (by omega) 9 (by omega) (by omega) (off := 82) (tgt := 83) rfl (by decide) ?_
    refine z_ldcS C (i := 5) (tx := "") dX3_formBehind_83 (by decide) ?_
    exact E dX3_formBehind_85 ⟨rfl, (by unfold zFm; simp [*] <;> omega)⟩
  by_cases e1_10 : c = 117
  · refine z_tabIn C dX3_formBehind_1 (by omega) 10 (by omega) (by omega) (off := 82) (tgt := 83) rfl (by decide) ?_
    refine z_ldcS C (i := 5) (tx := "") dX3_formBehind_83 (by decide) ?_
    exact E dX3_formBehind_85 ⟨rfl, (by unfold zFm; simp [*] <;> omega)⟩
  by_cases e1_11 : c = 118
  · refine z_tabIn C dX3_formBehind_1 (by omega) 11 (by omega) (by omega) (off := 82) (tgt := 83) rfl (by decide) ?_
    refine z_ldcS C (i := 5) (tx := "") dX3_formBehind_83 (by decide) ?_
    exact E dX3_formBehind_85 ⟨rfl, (by unfold zFm; simp [*] <;> omega)⟩
  by_cases e1_12 : c = 119
  · refine z_tabIn C dX3_formBehind_1 (by omega) 12 (by omega) (by omega) (off := 79) (tgt := 80) rfl (by decide) ?_
    refine z_ldcS C (i := 4) (tx := "D;") dX3_formBehind_80 (by decide) ?_
    exact E dX3_formBehind_82 ⟨rfl, (by unfold zFm; simp [*] <;> omega)⟩
  refine z_tabOut C dX3_formBehind_1 (by omega) (by omega) (tgt := 83) (by decide) ?_
  refine z_ldcS C (i := 5) (tx := "") dX3_formBehind_83 (by decide) ?_
  exact E dX3_formBehind_85 ⟨rfl, (by unfold zFm; simp [*] <;> omega)⟩
set_option maxHeartbeats 4000000 in
theorem c_X3_fits (l : Launch) (μ : zM) (ch c : Int) (hch : 0 ≤ ch ∧ ch < 128) (hc : 0 ≤ c ∧ c ≤ 255) : zMi l yX3_fits cX3_fits 2 (.boolean) 4 91 [.inl ch, .inl c] μ (fun (r : Int) (m : zM) => μ = m ∧ ((r = 1 ∧ (zFit ch c)) ∨ (r = 0 ∧ ¬ (zFit ch c)))) := by
  refine zMi_of (own := RX3) (by decide +kernel) rfl (Nat.le_of_ble_eq_true rfl) ?_
  intro X hX C hrm E
  subst hX
  show zJ X 2 μ 0 [(0, .inl ch), (1, .inl c)] []
  have hib := zIx_b (i := 0) (by omega) c
  refine z_iload_n C dX3_fits_0 0 rfl ?_
  by_cases e1_0 : ch = 68
  · refine z_look C dX3_fits_1 (by omega) (by decide) (off := 43) (by rw [e1_0]; decide) (tgt := 44) (by decide) ?_
    refine z_iload_n C dX3_fits_44 1 rfl ?_
    refine z_bipush C dX3_fits_45 (by decide) ?_
    refine z_icmp_lt C dX3_fits_47 (tgt := 60) (by decide) (by omega) (by decide) (fun c2 => ?_) (fun c2 => ?_)
    · refine z_iconst C dX3_fits_60 ?_
      exact E dX3_fits_61 (by decide) (z_nb (Or.inl rfl)) ⟨rfl, Or.inr ⟨rfl, by omega⟩⟩
    · refine z_iload_n C dX3_fits_50 1 rfl ?_
      refine z_bipush C dX3_fits_51 (by decide) ?_
      refine z_icmp_gt C dX3_fits_53 (tgt := 60) (by decide) (by omega) (by decide) (fun c3 => ?_) (fun c3 => ?_)
      · refine z_iconst C dX3_fits_60 ?_
        exact E dX3_fits_61 (by decide) (z_nb (Or.inl rfl)) ⟨rfl, Or.inr ⟨rfl, by omega⟩⟩
      · refine z_iconst C dX3_fits_56 ?_
        refine z_goto C dX3_fits_57 (tgt := 61) (by decide) ?_
        exact E dX3_fits_61 (by decide) (z_nb (Or.inr rfl)) ⟨rfl, Or.inl ⟨rfl, by omega⟩⟩
  by_cases e1_1 : ch = 75
  · refine z_look C dX3_fits_1 (by omega) (by decide) (off := 27) (by rw [e1_1]; decide) (tgt := 28) (by decide) ?_
    refine z_ldcS C (i := 0) (tx := "metshw") dX3_fits_28 (by decide) ?_
    refine z_iload_n C dX3_fits_30 1 rfl ?_
    refine z_i2c C dX3_fits_31 (by omega) ?_
    refine z_callVi C (c_J0_indexOf_0f7a4 (zl X) μ 0 (by decide) (by decide) c (by omega)) yyJ0_indexOf_0f7a4 mlX3_55 (zRc_str C (by decide)) dX3_fits_32 rfl rfl (Nat.le_of_ble_eq_true rfl) (by decide) (fun r4 m4 hr4 hp4 => ?_)
    obtain ⟨rfl, hp4⟩ := hp4
    rw [hp4]
    refine z_if_lt C dX3_fits_35 (tgt := 42) (by decide) (by omega) (fun c5 => ?_) (fun c5 => ?_)
    · refine z_iconst C dX3_fits_42 ?_
      exact E dX3_fits_43 (by decide) (z_nb (Or.inl rfl)) ⟨rfl, Or.inr ⟨rfl, by omega⟩⟩
    · refine z_iconst C dX3_fits_38 ?_
      refine z_goto C dX3_fits_39 (tgt := 43) (by decide) ?_
      exact E dX3_fits_43 (by decide) (z_nb (Or.inr rfl)) ⟨rfl, Or.inl ⟨rfl, by omega⟩⟩
  refine z_look C dX3_fits_1 (by omega) (by decide) (off := 61) (by simp [Op.lookupswitch.offset, Ne.symm e1_0, Ne.symm e1_1, e1_0, e1_1]) (tgt := 62) (by decide) ?_
  refine z_iload_n C dX3_fits_62 1 rfl ?_
  refine z_iload_n C dX3_fits_63 0 rfl ?_
  refine z_icmp_ne C dX3_fits_64 (tgt := 71) (by decide) (by omega) (by omega) (fun c6 => ?_) (fun c6 => ?_)
  · refine z_iconst C dX3_fits_71 ?_
    exact E dX3_fits_72 (by decide) (z_nb (Or.inl rfl)) ⟨rfl, Or.inr ⟨rfl, by omega⟩⟩
  · refine z_iconst C dX3_fits_67 ?_
    refine z_goto C dX3_fits_68 (tgt := 72) (by decide) ?_
    exact E dX3_fits_72 (by decide) (z_nb (Or.inr rfl)) ⟨rfl, Or.inl ⟨rfl, by omega⟩⟩
set_option maxHeartbeats 4000000 in
theorem c_X3_statements (l : Launch) (μ : zM) (tx : Int → Int) (n : Int) (hx : zLt μ tx n) : zMi l yX3_statements cX3_statements 3 (.int) 0 0 [.inr 16] μ (fun (r : Int) (m : zM) => μ = m ∧ r = zSum (fun i => if tx i = 59 then 1 else 0) n.toNat) := by
  refine zMi_of (own := RX3) (by decide +kernel) rfl (Nat.le_of_ble_eq_true rfl) ?_
  intro X hX C hrm E
  subst hX
  show zJ X 3 μ 0 [(0, .inr 16)] []
  obtain ⟨x1, x2, x3⟩ := id hx
  refine z_iconst C dX3_statements_0 ?_
  refine z_istore_n C dX3_statements_1 (by decide) (L' := [(0, _), (1, _)]) rfl ?_
  refine z_iconst C dX3_statements_2 ?_
  refine z_istore_n C dX3_statements_3 (by decide) (L' := [(0, _), (1, _), (2, _)]) rfl ?_
  have LP4 : ∀ (N4 : Nat) (k : Int) (i : Int), (0 ≤ i) → (i ≤ n) → (k = zSum (fun i => if tx i = 59 then 1 else 0) i.toNat) → (96 - i).toNat < N4 → zJ X 3 μ 4 [(0, .inr 16), (1, .inl k), (2, .inl i)] [] := by
    intro N4
    induction N4 with
    | zero => intro k i h4_0 h4_1 h4_2 hN; exact absurd hN (Nat.not_lt_zero _)
    | succ N4 ih4 =>
      intro k i h4_0 h4_1 h4_2 hN4
      have hkb := zSum_b (f := fun i => if tx i = 59 then 1 else 0) (c := 1) i.toNat (fun j _ _ => by show 0 ≤ (if tx j = 59 then (1 : Int) else 0) ∧ (if tx j = 59 then (1 : Int) else 0) ≤ 1; split <;> omega)
      have h1n : ∀ z : Int, 1 * z = z := Int.one_mul
      refine z_iload_n C dX3_statements_4 2 rfl ?_
      refine z_aload_n C dX3_statements_5 0 rfl ?_
      refine z_getI C ffX3_15 dX3_statements_6 (by decide) rfl rfl 1 rfl (fun hr1 => ?_)
      rw [x1]
      refine z_icmp_ge C dX3_statements_9 (tgt := 32) (by decide) (by omega) (by omega) (fun c2 => ?_) (fun c2 => ?_)
      · refine z_iload_n C dX3_statements_32 1 rfl ?_
        exact E dX3_statements_33 (by omega) rfl ⟨rfl, (by rw [h4_2, show i = n by omega])⟩
      · refine z_aload_n C dX3_statements_12 0 rfl ?_
        refine z_getR C ffX3_11 dX3_statements_13 (by decide) rfl rfl ?_
        refine z_iload_n C dX3_statements_16 2 rfl ?_
        refine z_iald C dX3_statements_17 (by decide) rfl (by omega) (by decide) (fun hr3 => ?_)
        rw [(x3 i (by omega) (by omega)).1]
        have hq := (x3 i (by omega) (by omega)).2
        refine z_bipush C dX3_statements_18 (by decide) ?_
        refine z_icmp_ne C dX3_statements_20 (tgt := 26) (by decide) (by omega) (by decide) (fun c4 => ?_) (fun c4 => ?_)
        · refine z_iinc C dX3_statements_26 2 rfl (by decide) (L' := [(0, _), (1, _), (2, _)]) rfl ?_
          refine z_goto C dX3_statements_29 (tgt := 4) (by decide) ?_
          exact ih4 _ _ (by omega) (by omega) (by rw [zSum_s _ (by omega), ← h4_2, if_neg (by omega), Int.add_zero]) (by omega)
        · refine z_iinc C dX3_statements_23 1 rfl (by decide) (L' := [(0, _), (1, _), (2, _)]) rfl ?_
          refine z_iinc C dX3_statements_26 2 rfl (by decide) (L' := [(0, _), (1, _), (2, _)]) rfl ?_
          refine z_goto C dX3_statements_29 (tgt := 4) (by decide) ?_
          exact ih4 _ _ (by omega) (by omega) (by rw [zSum_s _ (by omega), ← h4_2, if_pos (by omega)]) (by omega)
  exact LP4 _ 0 0 (by omega) (by omega) rfl (Nat.lt_succ_self _)
set_option maxHeartbeats 4000000 in
theorem c_X3_kindAt (l : Launch) (μ : zM) (tx : Int → Int) (n : Int) (hx : zLt μ tx n) (p : Int) (hp : 0 ≤ p ∧ p < n) : zMi l yX3_kindAt cX3_kindAt 2 (.int) 4 91 [.inr 16, .inl p] μ (fun (r : Int) (m : zM) => μ = m ∧ r = zIx 0 (tx p)) := by
  refine zMi_of (own := RX3) (by decide +kernel) rfl (Nat.le_of_ble_eq_true rfl) ?_
  intro X hX C hrm E
  subst hX
  show zJ X 2 μ 0 [(0, .inr 16), (1, .inl p)] []
  obtain ⟨x1, x2, x3⟩ := id hx
  have hib := zIx_b (i := 0) (by omega) (tx p)
  refine z_iload_n C dX3_kindAt_0 1 rfl ?_
  refine z_aload_n C dX3_kindAt_1 0 rfl ?_
  refine z_getI C ffX3_15 dX3_kindAt_2 (by decide) rfl rfl 1 rfl (fun hr1 => ?_)
  rw [x1]
  refine z_icmp_ge C dX3_kindAt_5 (tgt := 23) (by decide) (by omega) (by omega) (fun c2 => (by exfalso; omega)) (fun _ => ?_)
  refine z_ldcS C (i := 0) (tx := "metshw") dX3_kindAt_8 (by decide) ?_
  refine z_aload_n C dX3_kindAt_10 0 rfl ?_
  refine z_getR C ffX3_11 dX3_kindAt_11 (by decide) rfl rfl ?_
  refine z_iload_n C dX3_kindAt_14 1 rfl ?_
  refine z_iald C dX3_kindAt_15 (by decide) rfl (by omega) (by decide) (fun hr3 => ?_)
  rw [(x3 p hp.1 hp.2).1]
  have hq := (x3 p hp.1 hp.2).2
  refine z_i2c C dX3_kindAt_16 (by omega) ?_
  refine z_callVi C (c_J0_indexOf_0f7a4 (zl X) μ 0 (by decide) (by decide) (tx p) (by omega)) yyJ0_indexOf_0f7a4 mlX3_55 (zRc_str C (by decide)) dX3_kindAt_17 rfl rfl (Nat.le_of_ble_eq_true rfl) (by decide) (fun r4 m4 hr4 hp4 => ?_)
  obtain ⟨rfl, hp4⟩ := hp4
  rw [hp4]
  refine z_goto C dX3_kindAt_20 (tgt := 25) (by decide) ?_
  exact E dX3_kindAt_25 (by omega) rfl ⟨rfl, rfl⟩
set_option maxHeartbeats 4000000 in
theorem c_X3_digitAt (l : Launch) (μ : zM) (tx : Int → Int) (n : Int) (hx : zLt μ tx n) (p : Int) (hp : 0 ≤ p ∧ p < n) : zMi l yX3_digitAt cX3_digitAt 2 (.int) 0 0 [.inr 16, .inl p] μ (fun (r : Int) (m : zM) => μ = m ∧ r = tx p - 48) := by
  refine zMi_of (own := RX3) (by decide +kernel) rfl (Nat.le_of_ble_eq_true rfl) ?_
  intro X hX C hrm E
  subst hX
  show zJ X 2 μ 0 [(0, .inr 16), (1, .inl p)] []
  obtain ⟨x1, x2, x3⟩ := id hx
  refine z_iload_n C dX3_digitAt_0 1 rfl ?_
  refine z_aload_n C dX3_digitAt_1 0 rfl ?_
  refine z_getI C ffX3_15 dX3_digitAt_2 (by decide) rfl rfl 1 rfl (fun hr1 => ?_)
  rw [x1]
  refine z_icmp_ge C dX3_digitAt_5 (tgt := 20) (by decide) (by omega) (by omega) (fun c2 => (by exfalso; omega)) (fun _ => ?_)
  refine z_aload_n C dX3_digitAt_8 0 rfl ?_
  refine z_getR C ffX3_11 dX3_digitAt_9 (by decide) rfl rfl ?_
  refine z_iload_n C dX3_digitAt_12 1 rfl ?_
  refine z_iald C dX3_digitAt_13 (by decide) rfl (by omega) (by decide) (fun hr3 => ?_)
  rw [(x3 p hp.1 hp.2).1]
  have hq := (x3 p hp.1 hp.2).2
  refine z_bipush C dX3_digitAt_14 (by decide) ?_
  refine z_isub C dX3_digitAt_16 ?_
  refine z_goto C dX3_digitAt_17 (tgt := 22) (by decide) ?_
  exact E dX3_digitAt_22 (by omega) rfl ⟨rfl, rfl⟩
set_option maxHeartbeats 4000000 in
theorem c_X3_firstBadLetter (l : Launch) (μ : zM) (tx : Int → Int) (n : Int) (hx : zLt μ tx n) : zMi l yX3_firstBadLetter cX3_firstBadLetter 4 (.int) 5 112 [.inr 16] μ (fun (r : Int) (m : zM) => μ = m ∧ r = sBad tx n) := by
  refine zMi_of (own := RX3) (by decide +kernel) rfl (Nat.le_of_ble_eq_true rfl) ?_
  intro X hX C hrm E
  subst hX
  show zJ X 4 μ 0 [(0, .inr 16)] []
  obtain ⟨x1, x2, x3⟩ := id hx
  refine z_aload_n C dX3_firstBadLetter_0 0 rfl ?_
  refine z_getI C ffX3_15 dX3_firstBadLetter_1 (by decide) rfl rfl 1 rfl (fun hr1 => ?_)
  rw [x1]
  refine z_if_ne C dX3_firstBadLetter_4 (tgt := 9) (by decide) (by omega) (fun c2 => ?_) (fun c2 => ?_)
  · refine z_iconst C dX3_firstBadLetter_9 ?_
    refine z_istore_n C dX3_firstBadLetter_10 (by decide) (L' := [(0, _), (1, _)]) rfl ?_
    have LP11 : ∀ (N11 : Nat) (p : Int) (k : Int), (0 ≤ p) → (p ≤ n) → (0 ≤ k) → (k ≤ p) → (sTxt tx n n.toNat 0 = sTxt tx n (n - k).toNat p) → (96 - p).toNat < N11 → zJ X 4 μ 11 [(0, .inr 16), (1, .inl p)] [] := by
      intro N11
      induction N11 with
      | zero => intro p k h11_0 h11_1 h11_2 h11_3 h11_4 hN; exact absurd hN (Nat.not_lt_zero _)
      | succ N11 ih11 =>
        intro p k h11_0 h11_1 h11_2 h11_3 h11_4 hN11
        refine z_iload_n C dX3_firstBadLetter_11 1 rfl ?_
        refine z_aload_n C dX3_firstBadLetter_12 0 rfl ?_
        refine z_getI C ffX3_15 dX3_firstBadLetter_13 (by decide) rfl rfl 1 rfl (fun hr3 => ?_)
        rw [x1]
        refine z_icmp_ge C dX3_firstBadLetter_16 (tgt := 90) (by decide) (by omega) (by omega) (fun c4 => ?_) (fun c4 => ?_)
        · refine z_bipush C dX3_firstBadLetter_90 (by decide) ?_
          exact E dX3_firstBadLetter_92 (by decide) rfl ⟨rfl, (sBad_good (by omega) (h11_4.trans (sTxt_end (by omega)))).symm⟩
        · refine z_aload_n C dX3_firstBadLetter_19 0 rfl ?_
          refine z_getR C ffX3_11 dX3_firstBadLetter_20 (by decide) rfl rfl ?_
          refine z_iload_n C dX3_firstBadLetter_23 1 rfl ?_
          refine z_iald C dX3_firstBadLetter_24 (by decide) rfl (by omega) (by decide) (fun hr5 => ?_)
          rw [(x3 p (by omega) (by omega)).1]
          have hq := (x3 p (by omega) (by omega)).2
          have hfl := zFm_lt (tx p)
          have hlb := zLn_b (zFm (tx p)) hfl
          have hl5 := zLn_5 (tx p)
          refine z_callSr C (c_X3_formBehind (zl X) μ (tx p) (by omega)) yyX3_formBehind mlX3_23 dX3_firstBadLetter_25 rfl rfl (Nat.le_of_ble_eq_true rfl) (by decide) (fun r6 m6 hp6 => ?_)
          obtain ⟨rfl, hp6⟩ := hp6
          subst hp6
          refine z_astore_n C dX3_firstBadLetter_28 (by decide) (L' := [(0, _), (1, _), (2, _)]) rfl ?_
          refine z_aload_n C dX3_firstBadLetter_29 2 rfl ?_
          refine z_callVi C (c_J0_isEmpty_aae02 (zl X) μ (zFm (tx p)) (zFm_lt _)) yyJ0_isEmpty_aae02 mlX3_27 (zRc_str C (zFm_lt _)) dX3_firstBadLetter_30 rfl rfl (Nat.le_of_ble_eq_true rfl) (by decide) (fun r7 m7 hr7 hp7 => ?_)
          obtain ⟨rfl, hp7⟩ := hp7
          rcases hp7 with ⟨rfl, hp7⟩ | ⟨rfl, hp7⟩
          · refine z_if_eq C dX3_firstBadLetter_33 (tgt := 38) (by decide) (by decide) (fun c8 => (by exfalso; omega)) (fun _ => ?_)
            refine z_iload_n C dX3_firstBadLetter_36 1 rfl ?_
            exact E dX3_firstBadLetter_37 (by omega) rfl ⟨rfl, (sBad_bad (by omega) (h11_4.trans (sTxt_bad (by omega) (by omega) (sSta_no (by omega))))).symm⟩
          · refine z_if_eq C dX3_firstBadLetter_33 (tgt := 38) (by decide) (by decide) (fun _ => ?_) (fun c9 => (by exfalso; omega))
            refine z_iinc C dX3_firstBadLetter_38 1 rfl (by decide) (L' := [(0, _), (1, _), (2, _)]) rfl ?_
            refine z_iconst C dX3_firstBadLetter_41 ?_
            refine z_istore_n C dX3_firstBadLetter_42 (by decide) (L' := [(0, _), (1, _), (2, _), (3, _)]) rfl ?_
            have LP43 : ∀ (N43 : Nat) (q : Int) (j : Int), (0 ≤ j) → (j ≤ zLn (zFm (tx p))) → (q = p + 1 + j) → (q ≤ n) → (sSta tx n p = sScn tx n (zFm (tx p)) (zLn (zFm (tx p)) - j).toNat q j) → (96 - j).toNat < N43 → zJ X 4 μ 43 [(0, .inr 16), (1, .inl q), (2, .inr (70 + zFm (tx p))), (3, .inl j)] [] := by
              intro N43
              induction N43 with
              | zero => intro q j h43_0 h43_1 h43_2 h43_3 h43_4 hN; exact absurd hN (Nat.not_lt_zero _)
              | succ N43 ih43 =>
                intro q j h43_0 h43_1 h43_2 h43_3 h43_4 hN43
                refine z_iload_n C dX3_firstBadLetter_43 3 rfl ?_
                refine z_aload_n C dX3_firstBadLetter_44 2 rfl ?_
                refine z_callVi C (c_J0_length_8abf5 (zl X) μ (zFm (tx p)) (zFm_lt _)) yyJ0_length_8abf5 mlX3_32 (zRc_str C (zFm_lt _)) dX3_firstBadLetter_45 rfl rfl (Nat.le_of_ble_eq_true rfl) (by decide) (fun r10 m10 hr10 hp10 => ?_)
                obtain ⟨rfl, hp10⟩ := hp10
                rw [hp10]
                refine z_icmp_ge C dX3_firstBadLetter_48 (tgt := 87) (by decide) (by omega) (by omega) (fun c11 => ?_) (fun c11 => ?_)
                · refine z_goto C dX3_firstBadLetter_87 (tgt := 11) (by decide) ?_
                  refine z_sub [0, 1] rfl ?_; exact ih11 _ (k + 1) (by omega) (by omega) (by omega) (by omega) (h11_4.trans (sTxt_go (by omega) (by omega) (h43_4.trans (by rw [show (zLn (zFm (tx p)) - j).toNat = 0 by omega]; rfl)))) (by omega)
                · refine z_iload_n C dX3_firstBadLetter_51 1 rfl ?_
                  refine z_aload_n C dX3_firstBadLetter_52 0 rfl ?_
                  refine z_getI C ffX3_15 dX3_firstBadLetter_53 (by decide) rfl rfl 1 rfl (fun hr12 => ?_)
                  rw [x1]
                  refine z_icmp_ge C dX3_firstBadLetter_56 (tgt := 76) (by decide) (by omega) (by omega) (fun c13 => ?_) (fun c13 => ?_)
                  · refine z_iload_n C dX3_firstBadLetter_76 1 rfl ?_
                    exact E dX3_firstBadLetter_77 (by omega) rfl ⟨rfl, (sBad_bad (by omega) (h11_4.trans (sTxt_bad (by omega) (by omega) (h43_4.trans (by rw [sScn_s tx n _ (by omega), if_neg (by omega)]))))).symm⟩
                  · refine z_aload_n C dX3_firstBadLetter_59 2 rfl ?_
                    refine z_iload_n C dX3_firstBadLetter_60 3 rfl ?_
                    refine z_callVi C (c_J0_charAt_5068e (zl X) μ (zFm (tx p)) (zFm_lt _) j (by omega)) yyJ0_charAt_5068e mlX3_35 (zRc_str C (zFm_lt _)) dX3_firstBadLetter_61 rfl rfl (Nat.le_of_ble_eq_true rfl) (by decide) (fun r14 m14 hr14 hp14 => ?_)
                    obtain ⟨rfl, hp14⟩ := hp14
                    rw [hp14]
                    have hcb := zTx_b hfl j
                    have hcb2 := zTx_b2 hfl j
                    refine z_aload_n C dX3_firstBadLetter_64 0 rfl ?_
                    refine z_getR C ffX3_11 dX3_firstBadLetter_65 (by decide) rfl rfl ?_
                    refine z_iload_n C dX3_firstBadLetter_68 1 rfl ?_
                    refine z_iald C dX3_firstBadLetter_69 (by decide) rfl (by omega) (by decide) (fun hr15 => ?_)
                    rw [(x3 q (by omega) (by omega)).1]
                    have hq2 := (x3 q (by omega) (by omega)).2
                    refine z_callSi C (c_X3_fits (zl X) μ (zTx (zFm (tx p)) j) (tx q) (by omega) (by omega)) yyX3_fits mlX3_39 dX3_firstBadLetter_70 rfl rfl (Nat.le_of_ble_eq_true rfl) (by decide) (fun r16 m16 hr16 hp16 => ?_)
                    obtain ⟨rfl, hp16⟩ := hp16
                    rcases hp16 with ⟨rfl, hp16⟩ | ⟨rfl, hp16⟩
                    · refine z_if_ne C dX3_firstBadLetter_73 (tgt := 78) (by decide) (by decide) (fun _ => ?_) (fun c17 => (by exfalso; omega))
                      refine z_iinc C dX3_firstBadLetter_78 1 rfl (by decide) (L' := [(0, _), (1, _), (2, _), (3, _)]) rfl ?_
                      refine z_iinc C dX3_firstBadLetter_81 3 rfl (by decide) (L' := [(0, _), (1, _), (2, _), (3, _)]) rfl ?_
                      refine z_goto C dX3_firstBadLetter_84 (tgt := 43) (by decide) ?_
                      exact ih43 _ _ (by omega) (by omega) (by omega) (by omega) (by rw [h43_4, sScn_s tx n _ (by omega), if_pos ⟨by omega, by omega⟩]) (by omega)
                    · refine z_if_ne C dX3_firstBadLetter_73 (tgt := 78) (by decide) (by decide) (fun c18 => (by exfalso; omega)) (fun _ => ?_)
                      refine z_iload_n C dX3_firstBadLetter_76 1 rfl ?_
                      exact E dX3_firstBadLetter_77 (by omega) rfl ⟨rfl, (sBad_bad (by omega) (h11_4.trans (sTxt_bad (by omega) (by omega) (h43_4.trans (by rw [sScn_s tx n _ (by omega), if_neg (by omega)]))))).symm⟩
            exact LP43 _ _ 0 (by omega) (by omega) (by omega) (by omega) (by unfold sSta; rw [if_pos (by omega), Int.sub_zero]) (Nat.lt_succ_self _)
    exact LP11 _ 0 0 (by omega) (by omega) (by omega) (by omega) (by rw [Int.sub_zero]) (Nat.lt_succ_self _)
  · refine z_iconst C dX3_firstBadLetter_7 ?_
    exact E dX3_firstBadLetter_8 (by decide) rfl ⟨rfl, (by unfold sBad; rw [if_pos (by omega)])⟩
