/-! contracts: the reference: its letters -/
set_option maxHeartbeats 4000000 in
theorem c_X6_next (l : Launch) (μ : zM) (tx : Int → Int) (n : Int) (hx : zQl μ tx n) (p : Int) (hp : μ 31 13 = p) (hpn : 0 ≤ p ∧ p ≤ n) : zMi l yX6_next cX6_next 1 (.int) 0 0 [.inr 31] μ (fun (r : Int) (m : zM) => μ = m ∧ ((p < n ∧ r = tx p ∧ 0 ≤ r ∧ r ≤ 255) ∨ (n ≤ p ∧ r = -1))) := by
  refine zMi_of (own := RX6) (by decide +kernel) rfl (Nat.le_of_ble_eq_true rfl) ?_
  intro X hX C hrm E
  subst hX
  show zJ X 1 μ 0 [(0, .inr 31)] []
  obtain ⟨x1, x2, x3⟩ := id hx
  refine z_aload_n C dX6_next_0 0 rfl ?_
  refine z_getI C ffX6_50 dX6_next_1 (by decide) rfl rfl 13 rfl (fun hr1 => ?_)
  rw [hp]
  refine z_aload_n C dX6_next_4 0 rfl ?_
  refine z_getI C ffX6_25 dX6_next_5 (by decide) rfl rfl 5 rfl (fun hr2 => ?_)
  rw [x1]
  refine z_icmp_ge C dX6_next_8 (tgt := 23) (by decide) (by omega) (by omega) (fun c3 => ?_) (fun c3 => ?_)
  · refine z_iconst C dX6_next_23 ?_
    exact E dX6_next_24 (by decide) rfl ⟨rfl, (by omega)⟩
  · refine z_aload_n C dX6_next_11 0 rfl ?_
    refine z_getR C ffX6_41 dX6_next_12 (by decide) rfl rfl ?_
    refine z_aload_n C dX6_next_15 0 rfl ?_
    refine z_getI C ffX6_50 dX6_next_16 (by decide) rfl rfl 13 rfl (fun hr4 => ?_)
    rw [hp]
    refine z_iald C dX6_next_19 (by decide) rfl (by omega) (by decide) (fun hr5 => ?_)
    rw [(x3 p (by omega) (by omega)).1]
    have hq := (x3 p (by omega) (by omega)).2
    refine z_goto C dX6_next_20 (tgt := 24) (by decide) ?_
    exact E dX6_next_24 (by omega) rfl ⟨rfl, (by omega)⟩
set_option maxHeartbeats 4000000 in
theorem c_X6_takes (l : Launch) (μ : zM) (tx : Int → Int) (n : Int) (hx : zQl μ tx n) (p : Int) (hp : μ 31 13 = p) (hpn : 0 ≤ p ∧ p ≤ n) (c : Int) (hc : 0 ≤ c ∧ c ≤ 255) : zMi l yX6_takes cX6_takes 2 (.boolean) 1 20 [.inr 31, .inl c] μ (fun (r : Int) (m : zM) => ((r = 1 ∧ (p < n ∧ tx p = c) ∧ m 31 13 = p + 1) ∨ (r = 0 ∧ ¬ (p < n ∧ tx p = c) ∧ m 31 13 = p)) ∧ ∀ x y, ¬ (x = 31 ∧ (y = 13)) → m x y = μ x y) := by
  refine zMi_of (own := RX6) (by decide +kernel) rfl (Nat.le_of_ble_eq_true rfl) ?_
  intro X hX C hrm E
  subst hX
  show zJ X 2 μ 0 [(0, .inr 31), (1, .inl c)] []
  obtain ⟨x1, x2, x3⟩ := id hx
  refine z_aload_n C dX6_takes_0 0 rfl ?_
  refine z_callVi C (c_X6_next (zl X) μ tx n hx p hp (by omega)) yyX6_next mlX6_132 (zRc_of (i := 31) C (by decide) rfl rfl) dX6_takes_1 rfl rfl (Nat.le_of_ble_eq_true rfl) (by decide) (fun r1 m1 hr1 hp1 => ?_)
  obtain ⟨rfl, hp1⟩ := hp1
  refine z_iload_n C dX6_takes_4 1 rfl ?_
  refine z_icmp_eq C dX6_takes_5 (tgt := 10) (by decide) (by omega) (by omega) (fun c2 => ?_) (fun c2 => ?_)
  · refine z_aload_n C dX6_takes_10 0 rfl ?_
    refine z_dup C dX6_takes_11 ?_
    refine z_getI C ffX6_50 dX6_takes_12 (by decide) rfl rfl 13 rfl (fun hr3 => ?_)
    rw [hp]
    refine z_iconst C dX6_takes_15 ?_
    refine z_iadd C dX6_takes_16 ?_
    refine z_putI C ffX6_50 fp6_13 dX6_takes_17 (by decide) rfl rfl 13 rfl (by omega) ?_
    refine z_mem (fun m4 em4 => ?_)
    have e13 : m4 31 13 = p + 1 := by rw [em4, zs_self]
    refine z_iconst C dX6_takes_20 ?_
    exact E dX6_takes_21 (by decide) (z_nb (Or.inr rfl)) ⟨(by omega), (fun x y e => by rw [em4, zs_o _ _ (by omega)])⟩
  · refine z_iconst C dX6_takes_8 ?_
    exact E dX6_takes_9 (by decide) (z_nb (Or.inl rfl)) ⟨(by omega), (fun x y e => rfl)⟩
set_option maxHeartbeats 4000000 in
theorem c_X6_digit (l : Launch) (μ : zM) (tx : Int → Int) (n : Int) (hx : zQl μ tx n) (p : Int) (hp : μ 31 13 = p) (hpn : 0 ≤ p ∧ p ≤ n) : zMi l yX6_digit cX6_digit 1 (.int) 1 23 [.inr 31] μ (fun (r : Int) (m : zM) => (((p < n ∧ zDg (tx p)) ∧ r = tx p - 48 ∧ m 31 13 = p + 1) ∨ (¬ (p < n ∧ zDg (tx p)) ∧ r = -1 ∧ m 31 13 = p)) ∧ ∀ x y, ¬ (x = 31 ∧ (y = 13)) → m x y = μ x y) := by
  refine zMi_of (own := RX6) (by decide +kernel) rfl (Nat.le_of_ble_eq_true rfl) ?_
  intro X hX C hrm E
  subst hX
  show zJ X 1 μ 0 [(0, .inr 31)] []
  obtain ⟨x1, x2, x3⟩ := id hx
  refine z_aload_n C dX6_digit_0 0 rfl ?_
  refine z_aload_n C dX6_digit_1 0 rfl ?_
  refine z_callVi C (c_X6_next (zl X) μ tx n hx p hp (by omega)) yyX6_next mlX6_132 (zRc_of (i := 31) C (by decide) rfl rfl) dX6_digit_2 rfl rfl (Nat.le_of_ble_eq_true rfl) (by decide) (fun r1 m1 hr1 hp1 => ?_)
  obtain ⟨rfl, hp1⟩ := hp1
  refine z_bipush C dX6_digit_5 (by decide) ?_
  refine z_bipush C dX6_digit_7 (by decide) ?_
  refine z_callVi C (c_X6_in (zl X) μ r1 48 57 (by omega) (by omega) (by omega)) yyX6_in mlX6_117 (zRc_of (i := 31) C (by decide) rfl rfl) dX6_digit_9 rfl rfl (Nat.le_of_ble_eq_true rfl) (by decide) (fun r2 m2 hr2 hp2 => ?_)
  obtain ⟨rfl, hp2⟩ := hp2
  rcases hp2 with ⟨rfl, hp2⟩ | ⟨rfl, hp2⟩
  · refine z_if_ne C dX6_digit_12 (tgt := 17) (by decide) (by decide) (fun _ => ?_) (fun c3 => (by exfalso; omega))
    refine z_aload_n C dX6_digit_17 0 rfl ?_
    refine z_dup C dX6_digit_18 ?_
    refine z_getI C ffX6_50 dX6_digit_19 (by decide) rfl rfl 13 rfl (fun hr4 => ?_)
    rw [hp]
    refine z_iconst C dX6_digit_22 ?_
    refine z_iadd C dX6_digit_23 ?_
    refine z_putI C ffX6_50 fp6_13 dX6_digit_24 (by decide) rfl rfl 13 rfl (by omega) ?_
    refine z_mem (fun m5 em5 => ?_)
    refine z_aload_n C dX6_digit_27 0 rfl ?_
    refine z_getR C ffX6_41 dX6_digit_28 (by decide) rfl rfl ?_
    refine z_aload_n C dX6_digit_31 0 rfl ?_
    refine z_getI C ffX6_50 dX6_digit_32 (by decide) rfl rfl 13 rfl (fun hr6 => ?_)
    have e13 : m5 31 13 = p + 1 := by rw [em5, zs_self]
    rw [e13]
    refine z_iconst C dX6_digit_35 ?_
    refine z_isub C dX6_digit_36 ?_
    rw [show p + 1 - 1 = p by omega]
    refine z_iald C dX6_digit_37 (by decide) rfl (by omega) (by decide) (fun hr7 => ?_)
    rw [show m5 35 p = tx p by rw [em5, zs_ne _ _ _ (by omega)]; exact (x3 p (by omega) (by omega)).1]
    refine z_bipush C dX6_digit_38 (by decide) ?_
    refine z_isub C dX6_digit_40 ?_
    exact E dX6_digit_41 (by omega) rfl ⟨(by omega), (fun x y e => by rw [em5, zs_o _ _ (by omega)])⟩
  · refine z_if_ne C dX6_digit_12 (tgt := 17) (by decide) (by decide) (fun c8 => (by exfalso; omega)) (fun _ => ?_)
    refine z_iconst C dX6_digit_15 ?_
    exact E dX6_digit_16 (by decide) rfl ⟨(by omega), (fun x y e => rfl)⟩
set_option maxHeartbeats 4000000 in
theorem c_X6_kindOf (l : Launch) (μ : zM) (c : Int) (hc : -1 ≤ c ∧ c ≤ 255) : zMi l yX6_kindOf cX6_kindOf 2 (.int) 0 0 [.inr 31, .inl c] μ (fun (r : Int) (m : zM) => μ = m ∧ r = zIx 0 c) := by
  refine zMi_of (own := RX6) (by decide +kernel) rfl (Nat.le_of_ble_eq_true rfl) ?_
  intro X hX C hrm E
  subst hX
  show zJ X 2 μ 0 [(0, .inr 31), (1, .inl c)] []
  refine z_iload_n C dX6_kindOf_0 1 rfl ?_
  by_cases e1_d : c < 101 ∨ 119 < c
  · refine z_tabOut C dX6_kindOf_1 (by omega) (by omega) (tgt := 104) (by decide) ?_
    refine z_iconst C dX6_kindOf_104 ?_
    exact E dX6_kindOf_105 (by decide) rfl ⟨rfl, (by rw [zIx0, if_neg (by omega), if_neg (by omega), if_neg (by omega), if_neg (by omega), if_neg (by omega), if_neg (by omega)])⟩
  have e1_a : c = 101 ∨ c = 102 ∨ c = 103 ∨ c = 104 ∨ c = 105 ∨ c = 106 ∨ c = 107 ∨ c = 108 ∨ c = 109 ∨ c = 110 ∨ c = 111 ∨ c = 112 ∨ c = 113 ∨ c = 114 ∨ c = 115 ∨ c = 116 ∨ c = 117 ∨ c = 118 ∨ c = 119 := by omega
  rcases e1_a with e1_0 | e1_1 | e1_2 | e1_3 | e1_4 | e1_5 | e1_6 | e1_7 | e1_8 | e1_9 | e1_10 | e1_11 | e1_12 | e1_13 | e1_14 | e1_15 | e1_16 | e1_17 | e1_18
  · refine z_tabIn C dX6_kindOf_1 (by omega) 0 (by omega) (by omega) (off := 93) (tgt := 94) rfl (by decide) ?_
    refine z_iconst C dX6_kindOf_94 ?_
    exact E dX6_kindOf_95 (by decide) rfl ⟨rfl, (by rw [show c = 101 by omega]; rfl)⟩
  · refine z_tabIn C dX6_kindOf_1 (by omega) 1 (by omega) (by omega) (off := 103) (tgt := 104) rfl (by decide) ?_
    refine z_iconst C dX6_kindOf_104 ?_
    exact E dX6_kindOf_105 (by decide) rfl ⟨rfl, (by rw [show c = 102 by omega]; rfl)⟩
  · refine z_tabIn C dX6_kindOf_1 (by omega) 2 (by omega) (by omega) (off := 103) (tgt := 104) rfl (by decide) ?_
    refine z_iconst C dX6_kindOf_104 ?_
    exact E dX6_kindOf_105 (by decide) rfl ⟨rfl, (by rw [show c = 103 by omega]; rfl)⟩
  · refine z_tabIn C dX6_kindOf_1 (by omega) 3 (by omega) (by omega) (off := 99) (tgt := 100) rfl (by decide) ?_
    refine z_iconst C dX6_kindOf_100 ?_
    exact E dX6_kindOf_101 (by decide) rfl ⟨rfl, (by rw [show c = 104 by omega]; rfl)⟩
  · refine z_tabIn C dX6_kindOf_1 (by omega) 4 (by omega) (by omega) (off := 103) (tgt := 104) rfl (by decide) ?_
    refine z_iconst C dX6_kindOf_104 ?_
    exact E dX6_kindOf_105 (by decide) rfl ⟨rfl, (by rw [show c = 105 by omega]; rfl)⟩
  · refine z_tabIn C dX6_kindOf_1 (by omega) 5 (by omega) (by omega) (off := 103) (tgt := 104) rfl (by decide) ?_
    refine z_iconst C dX6_kindOf_104 ?_
    exact E dX6_kindOf_105 (by decide) rfl ⟨rfl, (by rw [show c = 106 by omega]; rfl)⟩
  · refine z_tabIn C dX6_kindOf_1 (by omega) 6 (by omega) (by omega) (off := 103) (tgt := 104) rfl (by decide) ?_
    refine z_iconst C dX6_kindOf_104 ?_
    exact E dX6_kindOf_105 (by decide) rfl ⟨rfl, (by rw [show c = 107 by omega]; rfl)⟩
  · refine z_tabIn C dX6_kindOf_1 (by omega) 7 (by omega) (by omega) (off := 103) (tgt := 104) rfl (by decide) ?_
    refine z_iconst C dX6_kindOf_104 ?_
    exact E dX6_kindOf_105 (by decide) rfl ⟨rfl, (by rw [show c = 108 by omega]; rfl)⟩
  · refine z_tabIn C dX6_kindOf_1 (by omega) 8 (by omega) (by omega) (off := 91) (tgt := 92) rfl (by decide) ?_
    refine z_iconst C dX6_kindOf_92 ?_
    exact E dX6_kindOf_93 (by decide) rfl ⟨rfl, (by rw [show c = 109 by omega]; rfl)⟩
  · refine z_tabIn C dX6_kindOf_1 (by omega) 9 (by omega) (by omega) (off := 103) (tgt := 104) rfl (by decide) ?_
    refine z_iconst C dX6_kindOf_104 ?_
    exact E dX6_kindOf_105 (by decide) rfl ⟨rfl, (by rw [show c = 110 by omega]; rfl)⟩
  · refine z_tabIn C dX6_kindOf_1 (by omega) 10 (by omega) (by omega) (off := 103) (tgt := 104) rfl (by decide) ?_
    refine z_iconst C dX6_kindOf_104 ?_
    exact E dX6_kindOf_105 (by decide) rfl ⟨rfl, (by rw [show c = 111 by omega]; rfl)⟩
  · refine z_tabIn C dX6_kindOf_1 (by omega) 11 (by omega) (by omega) (off := 103) (tgt := 104) rfl (by decide) ?_
    refine z_iconst C dX6_kindOf_104 ?_
    exact E dX6_kindOf_105 (by decide) rfl ⟨rfl, (by rw [show c = 112 by omega]; rfl)⟩
  · refine z_tabIn C dX6_kindOf_1 (by omega) 12 (by omega) (by omega) (off := 103) (tgt := 104) rfl (by decide) ?_
    refine z_iconst C dX6_kindOf_104 ?_
    exact E dX6_kindOf_105 (by decide) rfl ⟨rfl, (by rw [show c = 113 by omega]; rfl)⟩
  · refine z_tabIn C dX6_kindOf_1 (by omega) 13 (by omega) (by omega) (off := 103) (tgt := 104) rfl (by decide) ?_
    refine z_iconst C dX6_kindOf_104 ?_
    exact E dX6_kindOf_105 (by decide) rfl ⟨rfl, (by rw [show c = 114 by omega]; rfl)⟩
  · refine z_tabIn C dX6_kindOf_1 (by omega) 14 (by omega) (by omega) (off := 97) (tgt := 98) rfl (by decide) ?_
    refine z_iconst C dX6_kindOf_98 ?_
    exact E dX6_kindOf_99 (by decide) rfl ⟨rfl, (by rw [show c = 115 by omega]; rfl)⟩
  · refine z_tabIn C dX6_kindOf_1 (by omega) 15 (by omega) (by omega) (off := 95) (tgt := 96) rfl (by decide) ?_
    refine z_iconst C dX6_kindOf_96 ?_
    exact E dX6_kindOf_97 (by decide) rfl ⟨rfl, (by rw [show c = 116 by omega]; rfl)⟩
  · refine z_tabIn C dX6_kindOf_1 (by omega) 16 (by omega) (by omega) (off := 103) (tgt := 104) rfl (by decide) ?_
    refine z_iconst C dX6_kindOf_104 ?_
    exact E dX6_kindOf_105 (by decide) rfl ⟨rfl, (by rw [show c = 117 by omega]; rfl)⟩
  · refine z_tabIn C dX6_kindOf_1 (by omega) 17 (by omega) (by omega) (off := 103) (tgt := 104) rfl (by decide) ?_
    refine z_iconst C dX6_kindOf_104 ?_
    exact E dX6_kindOf_105 (by decide) rfl ⟨rfl, (by rw [show c = 118 by omega]; rfl)⟩
  · refine z_tabIn C dX6_kindOf_1 (by omega) 18 (by omega) (by omega) (off := 101) (tgt := 102) rfl (by decide) ?_
    refine z_iconst C dX6_kindOf_102 ?_
    exact E dX6_kindOf_103 (by decide) rfl ⟨rfl, (by rw [show c = 119 by omega]; rfl)⟩
set_option maxHeartbeats 4000000 in
theorem c_X6_takesKind (l : Launch) (μ : zM) (tx : Int → Int) (n : Int) (hx : zQl μ tx n) (p : Int) (hp : μ 31 13 = p) (hpn : 0 ≤ p ∧ p ≤ n) : zMi l yX6_takesKind cX6_takesKind 1 (.boolean) 1 21 [.inr 31] μ (fun (r : Int) (m : zM) => ((r = 1 ∧ (p < n ∧ 0 ≤ zIx 0 (tx p)) ∧ m 31 13 = p + 1 ∧ m 31 17 = zIx 0 (tx p)) ∨ (r = 0 ∧ ¬ (p < n ∧ 0 ≤ zIx 0 (tx p)) ∧ m 31 13 = p)) ∧ ∀ x y, ¬ (x = 31 ∧ (y = 13 ∨ y = 17)) → m x y = μ x y) := by
  refine zMi_of (own := RX6) (by decide +kernel) rfl (Nat.le_of_ble_eq_true rfl) ?_
  intro X hX C hrm E
  subst hX
  show zJ X 1 μ 0 [(0, .inr 31)] []
  obtain ⟨x1, x2, x3⟩ := id hx
  have hib := zIx_b (i := 0) (by omega) (tx p)
  refine z_aload_n C dX6_takesKind_0 0 rfl ?_
  refine z_aload_n C dX6_takesKind_1 0 rfl ?_
  refine z_aload_n C dX6_takesKind_2 0 rfl ?_
  refine z_callVi C (c_X6_next (zl X) μ tx n hx p hp (by omega)) yyX6_next mlX6_132 (zRc_of (i := 31) C (by decide) rfl rfl) dX6_takesKind_3 rfl rfl (Nat.le_of_ble_eq_true rfl) (by decide) (fun r1 m1 hr1 hp1 => ?_)
  obtain ⟨rfl, hp1⟩ := hp1
  have hnn := hp1
  refine z_callVi C (c_X6_kindOf (zl X) μ r1 (by omega)) yyX6_kindOf mlX6_136 (zRc_of (i := 31) C (by decide) rfl rfl) dX6_takesKind_6 rfl rfl (Nat.le_of_ble_eq_true rfl) (by decide) (fun r2 m2 hr2 hp2 => ?_)
  obtain ⟨rfl, hp2⟩ := hp2
  have hkk : (p < n ∧ r2 = zIx 0 (tx p)) ∨ (n ≤ p ∧ r2 = -1) := by
    rcases hnn with ⟨a, b, _⟩ | ⟨a, b⟩
    · exact Or.inl ⟨a, by rw [hp2, b]⟩
    · exact Or.inr ⟨a, by rw [hp2, b]; rfl⟩
  refine z_putI C ffX6_62 fp6_17 dX6_takesKind_9 (by decide) rfl rfl 17 rfl (by omega) ?_
  refine z_mem (fun m3 em3 => ?_)
  refine z_aload_n C dX6_takesKind_12 0 rfl ?_
  refine z_getI C ffX6_62 dX6_takesKind_13 (by decide) rfl rfl 17 rfl (fun hr4 => ?_)
  rw [show m3 31 17 = r2 by rw [em3, zs_self]]
  refine z_if_ge C dX6_takesKind_16 (tgt := 21) (by decide) (by omega) (fun c5 => ?_) (fun c5 => ?_)
  · refine z_aload_n C dX6_takesKind_21 0 rfl ?_
    refine z_dup C dX6_takesKind_22 ?_
    refine z_getI C ffX6_50 dX6_takesKind_23 (by decide) rfl rfl 13 rfl (fun hr6 => ?_)
    rw [show m3 31 13 = p by rw [em3, zs_o _ _ (by omega)]; exact hp]
    refine z_iconst C dX6_takesKind_26 ?_
    refine z_iadd C dX6_takesKind_27 ?_
    refine z_putI C ffX6_50 fp6_13 dX6_takesKind_28 (by decide) rfl rfl 13 rfl (by omega) ?_
    refine z_mem (fun m7 em7 => ?_)
    have e13 : m7 31 13 = p + 1 := by rw [em7, zs_self]
    have e17 : m7 31 17 = r2 := by rw [em7, zs_o _ _ (by omega), em3, zs_self]
    refine z_iconst C dX6_takesKind_31 ?_
    exact E dX6_takesKind_32 (by decide) (z_nb (Or.inr rfl)) ⟨(by omega), (fun x y e => by rw [em7, zs_o _ _ (by omega), em3, zs_o _ _ (by omega)])⟩
  · have e13 : m3 31 13 = p := by rw [em3, zs_o _ _ (by omega)]; exact hp
    refine z_iconst C dX6_takesKind_19 ?_
    exact E dX6_takesKind_20 (by decide) (z_nb (Or.inl rfl)) ⟨(by omega), (fun x y e => by rw [em3, zs_o _ _ (by omega)])⟩
set_option maxHeartbeats 4000000 in
theorem c_X6_takesOne (l : Launch) (μ : zM) (tx : Int → Int) (n : Int) (hx : zQl μ tx n) (p : Int) (hp : μ 31 13 = p) (hpn : 0 ≤ p ∧ p ≤ n) : zMi l yX6_takesOne cX6_takesOne 1 (.boolean) 2 43 [.inr 31] μ (fun (r : Int) (m : zM) => ((r = 1 ∧ (p < n ∧ zDg (tx p)) ∧ m 31 13 = p + 1 ∧ m 31 14 = tx p - 48) ∨ (r = 0 ∧ ¬ (p < n ∧ zDg (tx p)) ∧ m 31 13 = p)) ∧ ∀ x y, ¬ (x = 31 ∧ (y = 13 ∨ y = 14)) → m x y = μ x y) := by
  refine zMi_of (own := RX6) (by decide +kernel) rfl (Nat.le_of_ble_eq_true rfl) ?_
  intro X hX C hrm E
  subst hX
  show zJ X 1 μ 0 [(0, .inr 31)] []
  obtain ⟨x1, x2, x3⟩ := id hx
  refine z_aload_n C dX6_takesOne_0 0 rfl ?_
  refine z_aload_n C dX6_takesOne_1 0 rfl ?_
  refine z_callVi C (c_X6_digit (zl X) μ tx n hx p hp (by omega)) yyX6_digit mlX6_139 (zRc_of (i := 31) C (by decide) rfl rfl) dX6_takesOne_2 rfl rfl (Nat.le_of_ble_eq_true rfl) (by decide) (fun r1 m1 hr1 hp1 => ?_)
  refine z_putI C ffX6_53 fp6_14 dX6_takesOne_5 (by decide) rfl rfl 14 rfl (by omega) ?_
  refine z_mem (fun m2 em2 => ?_)
  have hdg := hp1
  have e13 : m2 31 13 = m1 31 13 := by rw [em2, zs_o _ _ (by omega)]
  have e14 : m2 31 14 = r1 := by rw [em2, zs_self]
  have hdl := hdg.1
  refine z_aload_n C dX6_takesOne_8 0 rfl ?_
  refine z_getI C ffX6_53 dX6_takesOne_9 (by decide) rfl rfl 14 rfl (fun hr3 => ?_)
  rw [e14]
  refine z_if_lt C dX6_takesOne_12 (tgt := 19) (by decide) (by omega) (fun c4 => ?_) (fun c4 => ?_)
  · refine z_iconst C dX6_takesOne_19 ?_
    exact E dX6_takesOne_20 (by decide) (z_nb (Or.inl rfl)) ⟨(by omega), (fun x y e => by rw [em2, zs_o _ _ (by omega), hp1.2 x y (by omega)])⟩
  · refine z_iconst C dX6_takesOne_15 ?_
    refine z_goto C dX6_takesOne_16 (tgt := 20) (by decide) ?_
    exact E dX6_takesOne_20 (by decide) (z_nb (Or.inr rfl)) ⟨(by omega), (fun x y e => by rw [em2, zs_o _ _ (by omega), hp1.2 x y (by omega)])⟩
set_option maxHeartbeats 4000000 in
theorem c_X6_takesTwo (l : Launch) (μ : zM) (tx : Int → Int) (n : Int) (hx : zQl μ tx n) (p : Int) (hp : μ 31 13 = p) (hpn : 0 ≤ p ∧ p ≤ n) : zMi l yX6_takesTwo cX6_takesTwo 1 (.boolean) 3 63 [.inr 31] μ (fun (r : Int) (m : zM) => ((r = 1 ∧ (p < n ∧ zDg (tx p)) ∧ ((p + 1) < n ∧ zDg (tx (p + 1))) ∧ m 31 13 = p + 2 ∧ m 31 14 = tx p - 48 ∧ m 31 15 = tx (p + 1) - 48) ∨ (r = 0 ∧ ¬ (p < n ∧ zDg (tx p)) ∧ m 31 13 = p) ∨ (r = 0 ∧ (p < n ∧ zDg (tx p)) ∧ ¬ ((p + 1) < n ∧ zDg (tx (p + 1))) ∧ m 31 13 = p + 1)) ∧ ∀ x y, ¬ (x = 31 ∧ (y = 13 ∨ y = 14 ∨ y = 15)) → m x y = μ x y) := by
  refine zMi_of (own := RX6) (by decide +kernel) rfl (Nat.le_of_ble_eq_true rfl) ?_
  intro X hX C hrm E
  subst hX
  show zJ X 1 μ 0 [(0, .inr 31)] []
  obtain ⟨x1, x2, x3⟩ := id hx
  refine z_aload_n C dX6_takesTwo_0 0 rfl ?_
  refine z_callVi C (c_X6_takesOne (zl X) μ tx n hx p hp (by omega)) yyX6_takesOne mlX6_142 (zRc_of (i := 31) C (by decide) rfl rfl) dX6_takesTwo_1 rfl rfl (Nat.le_of_ble_eq_true rfl) (by decide) (fun r1 m1 hr1 hp1 => ?_)
  have h1 := hp1.1
  refine z_if_ne C dX6_takesTwo_4 (tgt := 9) (by decide) (by omega) (fun c2 => ?_) (fun c2 => ?_)
  · refine z_aload_n C dX6_takesTwo_9 0 rfl ?_
    refine z_aload_n C dX6_takesTwo_10 0 rfl ?_
    refine z_callVi C (c_X6_digit (zl X) m1 tx n (zQl_fr hx (by rw [hp1.2 31 5 (by omega)]) (funext fun y => by rw [hp1.2 35 y (by omega)])) (p + 1) (by omega) (by omega)) yyX6_digit mlX6_139 (zRc_of (i := 31) C (by decide) rfl rfl) dX6_takesTwo_11 rfl rfl (Nat.le_of_ble_eq_true rfl) (by decide) (fun r3 m3 hr3 hp3 => ?_)
    refine z_putI C ffX6_56 fp6_15 dX6_takesTwo_14 (by decide) rfl rfl 15 rfl (by omega) ?_
    refine z_mem (fun m4 em4 => ?_)
    have hdg := hp3
    have e13 : m4 31 13 = m3 31 13 := by rw [em4, zs_o _ _ (by omega)]
    have e15 : m4 31 15 = r3 := by rw [em4, zs_self]
    have e14 : m4 31 14 = m1 31 14 := by rw [em4, zs_o _ _ (by omega), hp3.2 31 14 (by omega)]
    have hdl := hdg.1
    refine z_aload_n C dX6_takesTwo_17 0 rfl ?_
    refine z_getI C ffX6_56 dX6_takesTwo_18 (by decide) rfl rfl 15 rfl (fun hr5 => ?_)
    rw [e15]
    refine z_if_lt C dX6_takesTwo_21 (tgt := 28) (by decide) (by omega) (fun c6 => ?_) (fun c6 => ?_)
    · refine z_iconst C dX6_takesTwo_28 ?_
      exact E dX6_takesTwo_29 (by decide) (z_nb (Or.inl rfl)) ⟨(by omega), (fun x y e => by rw [em4, zs_o _ _ (by omega), hp3.2 x y (by omega), hp1.2 x y (by omega)])⟩
    · refine z_iconst C dX6_takesTwo_24 ?_
      refine z_goto C dX6_takesTwo_25 (tgt := 29) (by decide) ?_
      exact E dX6_takesTwo_29 (by decide) (z_nb (Or.inr rfl)) ⟨(by omega), (fun x y e => by rw [em4, zs_o _ _ (by omega), hp3.2 x y (by omega), hp1.2 x y (by omega)])⟩
  · refine z_iconst C dX6_takesTwo_7 ?_
    exact E dX6_takesTwo_8 (by decide) (z_nb (Or.inl rfl)) ⟨(by omega), (fun x y e => by rw [hp1.2 x y (by omega)])⟩
set_option maxHeartbeats 4000000 in
theorem c_X6_takesThree (l : Launch) (μ : zM) (tx : Int → Int) (n : Int) (hx : zQl μ tx n) (p : Int) (hp : μ 31 13 = p) (hpn : 0 ≤ p ∧ p ≤ n) : zMi l yX6_takesThree cX6_takesThree 1 (.boolean) 4 83 [.inr 31] μ (fun (r : Int) (m : zM) => ((r = 1 ∧ (p < n ∧ zDg (tx p)) ∧ ((p + 1) < n ∧ zDg (tx (p + 1))) ∧ ((p + 2) < n ∧ zDg (tx (p + 2))) ∧ m 31 13 = p + 3 ∧ m 31 14 = tx p - 48 ∧ m 31 15 = tx (p + 1) - 48 ∧ m 31 16 = tx (p + 2) - 48) ∨ (r = 0 ∧ ¬ (p < n ∧ zDg (tx p)) ∧ m 31 13 = p) ∨ (r = 0 ∧ (p < n ∧ zDg (tx p)) ∧ ¬ ((p + 1) < n ∧ zDg (tx (p + 1))) ∧ m 31 13 = p + 1) ∨ (r = 0 ∧ (p < n ∧ zDg (tx p)) ∧ ((p + 1) < n ∧ zDg (tx (p + 1))) ∧ ¬ ((p + 2) < n ∧ zDg (tx (p + 2))) ∧ m 31 13 = p + 2)) ∧ ∀ x y, ¬ (x = 31 ∧ (y = 13 ∨ y = 14 ∨ y = 15 ∨ y = 16)) → m x y = μ x y) := by
  refine zMi_of (own := RX6) (by decide +kernel) rfl (Nat.le_of_ble_eq_true rfl) ?_
  intro X hX C hrm E
  subst hX
  show zJ X 1 μ 0 [(0, .inr 31)] []
  obtain ⟨x1, x2, x3⟩ := id hx
  refine z_aload_n C dX6_takesThree_0 0 rfl ?_
  refine z_callVi C (c_X6_takesTwo (zl X) μ tx n hx p hp (by omega)) yyX6_takesTwo mlX6_146 (zRc_of (i := 31) C (by decide) rfl rfl) dX6_takesThree_1 rfl rfl (Nat.le_of_ble_eq_true rfl) (by decide) (fun r1 m1 hr1 hp1 => ?_)
  have h1 := hp1.1
  refine z_if_ne C dX6_takesThree_4 (tgt := 9) (by decide) (by omega) (fun c2 => ?_) (fun c2 => ?_)
  · refine z_aload_n C dX6_takesThree_9 0 rfl ?_
    refine z_aload_n C dX6_takesThree_10 0 rfl ?_
    refine z_callVi C (c_X6_digit (zl X) m1 tx n (zQl_fr hx (by rw [hp1.2 31 5 (by omega)]) (funext fun y => by rw [hp1.2 35 y (by omega)])) (p + 2) (by omega) (by omega)) yyX6_digit mlX6_139 (zRc_of (i := 31) C (by decide) rfl rfl) dX6_takesThree_11 rfl rfl (Nat.le_of_ble_eq_true rfl) (by decide) (fun r3 m3 hr3 hp3 => ?_)
    refine z_putI C ffX6_59 fp6_16 dX6_takesThree_14 (by decide) rfl rfl 16 rfl (by omega) ?_
    refine z_mem (fun m4 em4 => ?_)
    have hdg := hp3
    have e13 : m4 31 13 = m3 31 13 := by rw [em4, zs_o _ _ (by omega)]
    have e16 : m4 31 16 = r3 := by rw [em4, zs_self]
    have e14 : m4 31 14 = m1 31 14 := by rw [em4, zs_o _ _ (by omega), hp3.2 31 14 (by omega)]
    have e15 : m4 31 15 = m1 31 15 := by rw [em4, zs_o _ _ (by omega), hp3.2 31 15 (by omega)]
    have hdl := hdg.1
    refine z_aload_n C dX6_takesThree_17 0 rfl ?_
    refine z_getI C ffX6_59 dX6_takesThree_18 (by decide) rfl rfl 16 rfl (fun hr5 => ?_)
    rw [e16]
    refine z_if_lt C dX6_takesThree_21 (tgt := 28) (by decide) (by omega) (fun c6 => ?_) (fun c6 => ?_)
    · refine z_iconst C dX6_takesThree_28 ?_
      exact E dX6_takesThree_29 (by decide) (z_nb (Or.inl rfl)) ⟨(by omega), (fun x y e => by rw [em4, zs_o _ _ (by omega), hp3.2 x y (by omega), hp1.2 x y (by omega)])⟩
    · refine z_iconst C dX6_takesThree_24 ?_
      refine z_goto C dX6_takesThree_25 (tgt := 29) (by decide) ?_
      exact E dX6_takesThree_29 (by decide) (z_nb (Or.inr rfl)) ⟨(by omega), (fun x y e => by rw [em4, zs_o _ _ (by omega), hp3.2 x y (by omega), hp1.2 x y (by omega)])⟩
  · refine z_iconst C dX6_takesThree_7 ?_
    exact E dX6_takesThree_8 (by decide) (z_nb (Or.inl rfl)) ⟨(by omega), (fun x y e => by rw [hp1.2 x y (by omega)])⟩
set_option maxHeartbeats 4000000 in
theorem c_X6_takesRest (l : Launch) (μ : zM) (tx : Int → Int) (n : Int) (hx : zQl μ tx n) (p : Int) (hp : μ 31 13 = p) (hpn : 0 ≤ p ∧ p ≤ n) (c : Int) (hc : 0 ≤ c ∧ c ≤ 255) : zMi l yX6_takesRest cX6_takesRest 2 (.boolean) 5 103 [.inr 31, .inl c] μ (fun (r : Int) (m : zM) => ((c = 108 ∨ c = 114) → ((r = 1 ∧ (p < n ∧ 0 ≤ zIx 0 (tx p)) ∧ ((p + 1) < n ∧ zDg (tx (p + 1))) ∧ m 31 13 = p + 2 ∧ m 31 17 = zIx 0 (tx p) ∧ m 31 14 = tx (p + 1) - 48) ∨ (r = 0 ∧ ¬ (p < n ∧ 0 ≤ zIx 0 (tx p)) ∧ m 31 13 = p) ∨ (r = 0 ∧ (p < n ∧ 0 ≤ zIx 0 (tx p)) ∧ ¬ ((p + 1) < n ∧ zDg (tx (p + 1))) ∧ m 31 13 = p + 1))) ∧ (c = 107 → ((r = 1 ∧ (p < n ∧ zDg (tx p)) ∧ ((p + 1) < n ∧ zDg (tx (p + 1))) ∧ ((p + 2) < n ∧ zDg (tx (p + 2))) ∧ m 31 13 = p + 3 ∧ m 31 14 = tx p - 48 ∧ m 31 15 = tx (p + 1) - 48 ∧ m 31 16 = tx (p + 2) - 48) ∨ (r = 0 ∧ ¬ (p < n ∧ zDg (tx p)) ∧ m 31 13 = p) ∨ (r = 0 ∧ (p < n ∧ zDg (tx p)) ∧ ¬ ((p + 1) < n ∧ zDg (tx (p + 1))) ∧ m 31 13 = p + 1) ∨ (r = 0 ∧ (p < n ∧ zDg (tx p)) ∧ ((p + 1) < n ∧ zDg (tx (p + 1))) ∧ ¬ ((p + 2) < n ∧ zDg (tx (p + 2))) ∧ m 31 13 = p + 2))) ∧ (c = 111 → ((r = 1 ∧ (p < n ∧ zDg (tx p)) ∧ ((p + 1) < n ∧ zDg (tx (p + 1))) ∧ m 31 13 = p + 2 ∧ m 31 14 = tx p - 48 ∧ m 31 15 = tx (p + 1) - 48) ∨ (r = 0 ∧ ¬ (p < n ∧ zDg (tx p)) ∧ m 31 13 = p) ∨ (r = 0 ∧ (p < n ∧ zDg (tx p)) ∧ ¬ ((p + 1) < n ∧ zDg (tx (p + 1))) ∧ m 31 13 = p + 1))) ∧ ((¬ c = 108 ∧ ¬ c = 114 ∧ ¬ c = 107 ∧ ¬ c = 111) → ((r = 1 ∧ (p < n ∧ zDg (tx p)) ∧ m 31 13 = p + 1 ∧ m 31 14 = tx p - 48) ∨ (r = 0 ∧ ¬ (p < n ∧ zDg (tx p)) ∧ m 31 13 = p))) ∧ ∀ x y, ¬ (x = 31 ∧ (y = 13 ∨ y = 14 ∨ y = 15 ∨ y = 16 ∨ y = 17)) → m x y = μ x y) := by
  refine zMi_of (own := RX6) (by decide +kernel) rfl (Nat.le_of_ble_eq_true rfl) ?_
  intro X hX C hrm E
  subst hX
  show zJ X 2 μ 0 [(0, .inr 31), (1, .inl c)] []
  obtain ⟨x1, x2, x3⟩ := id hx
  refine z_iload_n C dX6_takesRest_0 1 rfl ?_
  by_cases e1_d : c < 107 ∨ 114 < c
  · refine z_tabOut C dX6_takesRest_1 (by omega) (by omega) (tgt := 78) (by decide) ?_
    refine z_aload_n C dX6_takesRest_78 0 rfl ?_
    refine z_callVi C (c_X6_takesOne (zl X) μ tx n hx p hp (by omega)) yyX6_takesOne mlX6_142 (zRc_of (i := 31) C (by decide) rfl rfl) dX6_takesRest_79 rfl rfl (Nat.le_of_ble_eq_true rfl) (by decide) (fun r2 m2 hr2 hp2 => ?_)
    have h1 := hp2.1
    exact E dX6_takesRest_82 (by omega) (z_nb (by omega)) ⟨(fun _ => by omega), (fun _ => by omega), (fun _ => by omega), (fun _ => by omega), (fun x y e => by rw [hp2.2 x y (by omega)])⟩
  have e1_a : c = 107 ∨ c = 108 ∨ c = 109 ∨ c = 110 ∨ c = 111 ∨ c = 112 ∨ c = 113 ∨ c = 114 := by omega
  rcases e1_a with e1_0 | e1_1 | e1_2 | e1_3 | e1_4 | e1_5 | e1_6 | e1_7
  · refine z_tabIn C dX6_takesRest_1 (by omega) 0 (by omega) (by omega) (off := 67) (tgt := 68) rfl (by decide) ?_
    refine z_aload_n C dX6_takesRest_68 0 rfl ?_
    refine z_callVi C (c_X6_takesThree (zl X) μ tx n hx p hp (by omega)) yyX6_takesThree mlX6_152 (zRc_of (i := 31) C (by decide) rfl rfl) dX6_takesRest_69 rfl rfl (Nat.le_of_ble_eq_true rfl) (by decide) (fun r3 m3 hr3 hp3 => ?_)
    have h1 := hp3.1
    exact E dX6_takesRest_72 (by omega) (z_nb (by omega)) ⟨(fun _ => by omega), (fun _ => by omega), (fun _ => by omega), (fun _ => by omega), (fun x y e => by rw [hp3.2 x y (by omega)])⟩
  · refine z_tabIn C dX6_takesRest_1 (by omega) 1 (by omega) (by omega) (off := 47) (tgt := 48) rfl (by decide) ?_
    refine z_aload_n C dX6_takesRest_48 0 rfl ?_
    refine z_callVi C (c_X6_takesKind (zl X) μ tx n hx p hp (by omega)) yyX6_takesKind mlX6_149 (zRc_of (i := 31) C (by decide) rfl rfl) dX6_takesRest_49 rfl rfl (Nat.le_of_ble_eq_true rfl) (by decide) (fun r4 m4 hr4 hp4 => ?_)
    have h1 := hp4.1
    refine z_if_eq C dX6_takesRest_52 (tgt := 66) (by decide) (by omega) (fun c5 => ?_) (fun c5 => ?_)
    · refine z_iconst C dX6_takesRest_66 ?_
      exact E dX6_takesRest_67 (by decide) (z_nb (Or.inl rfl)) ⟨(fun _ => by omega), (fun _ => by omega), (fun _ => by omega), (fun _ => by omega), (fun x y e => by rw [hp4.2 x y (by omega)])⟩
    · refine z_aload_n C dX6_takesRest_55 0 rfl ?_
      refine z_callVi C (c_X6_takesOne (zl X) m4 tx n (zQl_fr hx (by rw [hp4.2 31 5 (by omega)]) (funext fun y => by rw [hp4.2 35 y (by omega)])) (p + 1) (by omega) (by omega)) yyX6_takesOne mlX6_142 (zRc_of (i := 31) C (by decide) rfl rfl) dX6_takesRest_56 rfl rfl (Nat.le_of_ble_eq_true rfl) (by decide) (fun r6 m6 hr6 hp6 => ?_)
      have h2 := hp6.1
      have e17 := hp6.2 31 17 (by omega)
      refine z_if_eq C dX6_takesRest_59 (tgt := 66) (by decide) (by omega) (fun c7 => ?_) (fun c7 => ?_)
      · refine z_iconst C dX6_takesRest_66 ?_
        exact E dX6_takesRest_67 (by decide) (z_nb (Or.inl rfl)) ⟨(fun _ => by omega), (fun _ => by omega), (fun _ => by omega), (fun _ => by omega), (fun x y e => by rw [hp6.2 x y (by omega), hp4.2 x y (by omega)])⟩
      · refine z_iconst C dX6_takesRest_62 ?_
        refine z_goto C dX6_takesRest_63 (tgt := 67) (by decide) ?_
        exact E dX6_takesRest_67 (by decide) (z_nb (Or.inr rfl)) ⟨(fun _ => by omega), (fun _ => by omega), (fun _ => by omega), (fun _ => by omega), (fun x y e => by rw [hp6.2 x y (by omega), hp4.2 x y (by omega)])⟩
  · refine z_tabIn C dX6_takesRest_1 (by omega) 2 (by omega) (by omega) (off := 77) (tgt := 78) rfl (by decide) ?_
    refine z_aload_n C dX6_takesRest_78 0 rfl ?_
    refine z_callVi C (c_X6_takesOne (zl X) μ tx n hx p hp (by omega)) yyX6_takesOne mlX6_142 (zRc_of (i := 31) C (by decide) rfl rfl) dX6_takesRest_79 rfl rfl (Nat.le_of_ble_eq_true rfl) (by decide) (fun r8 m8 hr8 hp8 => ?_)
    have h1 := hp8.1
    exact E dX6_takesRest_82 (by omega) (z_nb (by omega)) ⟨(fun _ => by omega), (fun _ => by omega), (fun _ => by omega), (fun _ => by omega), (fun x y e => by rw [hp8.2 x y (by omega)])⟩
  · refine z_tabIn C dX6_takesRest_1 (by omega) 3 (by omega) (by omega) (off := 77) (tgt := 78) rfl (by decide) ?_
    refine z_aload_n C dX6_takesRest_78 0 rfl ?_
    refine z_callVi C (c_X6_takesOne (zl X) μ tx n hx p hp (by omega)) yyX6_takesOne mlX6_142 (zRc_of (i := 31) C (by decide) rfl rfl) dX6_takesRest_79 rfl rfl (Nat.le_of_ble_eq_true rfl) (by decide) (fun r9 m9 hr9 hp9 => ?_)
    have h1 := hp9.1
    exact E dX6_takesRest_82 (by omega) (z_nb (by omega)) ⟨(fun _ => by omega), (fun _ => by omega), (fun _ => by omega), (fun _ => by omega), (fun x y e => by rw [hp9.2 x y (by omega)])⟩
  · refine z_tabIn C dX6_takesRest_1 (by omega) 4 (by omega) (by omega) (off := 72) (tgt := 73) rfl (by decide) ?_
    refine z_aload_n C dX6_takesRest_73 0 rfl ?_
    refine z_callVi C (c_X6_takesTwo (zl X) μ tx n hx p hp (by omega)) yyX6_takesTwo mlX6_146 (zRc_of (i := 31) C (by decide) rfl rfl) dX6_takesRest_74 rfl rfl (Nat.le_of_ble_eq_true rfl) (by decide) (fun r10 m10 hr10 hp10 => ?_)
    have h1 := hp10.1
    exact E dX6_takesRest_77 (by omega) (z_nb (by omega)) ⟨(fun _ => by omega), (fun _ => by omega), (fun _ => by omega), (fun _ => by omega), (fun x y e => by rw [hp10.2 x y (by omega)])⟩
  · refine z_tabIn C dX6_takesRest_1 (by omega) 5 (by omega) (by omega) (off := 77) (tgt := 78) rfl (by decide) ?_
    refine z_aload_n C dX6_takesRest_78 0 rfl ?_
    refine z_callVi C (c_X6_takesOne (zl X) μ tx n hx p hp (by omega)) yyX6_takesOne mlX6_142 (zRc_of (i := 31) C (by decide) rfl rfl) dX6_takesRest_79 rfl rfl (Nat.le_of_ble_eq_true rfl) (by decide) (fun r11 m11 hr11 hp11 => ?_)
    have h1 := hp11.1
    exact E dX6_takesRest_82 (by omega) (z_nb (by omega)) ⟨(fun _ => by omega), (fun _ => by omega), (fun _ => by omega), (fun _ => by omega), (fun x y e => by rw [hp11.2 x y (by omega)])⟩
  · refine z_tabIn C dX6_takesRest_1 (by omega) 6 (by omega) (by omega) (off := 77) (tgt := 78) rfl (by decide) ?_
    refine z_aload_n C dX6_takesRest_78 0 rfl ?_
    refine z_callVi C (c_X6_takesOne (zl X) μ tx n hx p hp (by omega)) yyX6_takesOne mlX6_142 (zRc_of (i := 31) C (by decide) rfl rfl) dX6_takesRest_79 rfl rfl (Nat.le_of_ble_eq_true rfl) (by decide) (fun r12 m12 hr12 hp12 => ?_)
    have h1 := hp12.1
    exact E dX6_takesRest_82 (by omega) (z_nb (by omega)) ⟨(fun _ => by omega), (fun _ => by omega), (fun _ => by omega), (fun _ => by omega), (fun x y e => by rw [hp12.2 x y (by omega)])⟩
  · refine z_tabIn C dX6_takesRest_1 (by omega) 7 (by omega) (by omega) (off := 47) (tgt := 48) rfl (by decide) ?_
    refine z_aload_n C dX6_takesRest_48 0 rfl ?_
    refine z_callVi C (c_X6_takesKind (zl X) μ tx n hx p hp (by omega)) yyX6_takesKind mlX6_149 (zRc_of (i := 31) C (by decide) rfl rfl) dX6_takesRest_49 rfl rfl (Nat.le_of_ble_eq_true rfl) (by decide) (fun r13 m13 hr13 hp13 => ?_)
    have h1 := hp13.1
    refine z_if_eq C dX6_takesRest_52 (tgt := 66) (by decide) (by omega) (fun c14 => ?_) (fun c14 => ?_)
    · refine z_iconst C dX6_takesRest_66 ?_
      exact E dX6_takesRest_67 (by decide) (z_nb (Or.inl rfl)) ⟨(fun _ => by omega), (fun _ => by omega), (fun _ => by omega), (fun _ => by omega), (fun x y e => by rw [hp13.2 x y (by omega)])⟩
    · refine z_aload_n C dX6_takesRest_55 0 rfl ?_
      refine z_callVi C (c_X6_takesOne (zl X) m13 tx n (zQl_fr hx (by rw [hp13.2 31 5 (by omega)]) (funext fun y => by rw [hp13.2 35 y (by omega)])) (p + 1) (by omega) (by omega)) yyX6_takesOne mlX6_142 (zRc_of (i := 31) C (by decide) rfl rfl) dX6_takesRest_56 rfl rfl (Nat.le_of_ble_eq_true rfl) (by decide) (fun r15 m15 hr15 hp15 => ?_)
      have h2 := hp15.1
      have e17 := hp15.2 31 17 (by omega)
      refine z_if_eq C dX6_takesRest_59 (tgt := 66) (by decide) (by omega) (fun c16 => ?_) (fun c16 => ?_)
      · refine z_iconst C dX6_takesRest_66 ?_
        exact E dX6_takesRest_67 (by decide) (z_nb (Or.inl rfl)) ⟨(fun _ => by omega), (fun _ => by omega), (fun _ => by omega), (fun _ => by omega), (fun x y e => by rw [hp15.2 x y (by omega), hp13.2 x y (by omega)])⟩
      · refine z_iconst C dX6_takesRest_62 ?_
        refine z_goto C dX6_takesRest_63 (tgt := 67) (by decide) ?_
        exact E dX6_takesRest_67 (by decide) (z_nb (Or.inr rfl)) ⟨(fun _ => by omega), (fun _ => by omega), (fun _ => by omega), (fun _ => by omega), (fun x y e => by rw [hp15.2 x y (by omega), hp13.2 x y (by omega)])⟩
