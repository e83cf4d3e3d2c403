/-! contracts: the JDK's floorMod, max, min; the class's static helpers; Told -/
def vN (v : zVw) : Int := if vL v ≤ vR v then vR v else vL v
theorem vN_ok {v : zVw} (h : vOK v) : (0 ≤ vN v ∧ vN v ≤ 5) ∧ vL v ≤ vN v ∧ vR v ≤ vN v ∧ (vN v = vL v ∨ vN v = vR v) := by
  obtain ⟨h1, h2, -⟩ := h
  unfold vN
  split <;> omega
set_option maxHeartbeats 4000000 in
theorem c_J9_floorMod_7cf53 (l : Launch) (μ : zM) (x y : Int) (hx : -64 ≤ x ∧ x < 64) (hy : 1 ≤ y ∧ y < 6) : zMi l yJ9_floorMod_7cf53 cJ9_floorMod_7cf53 3 (.int) 0 0 [.inl x, .inl y] μ (fun (r : Int) (m : zM) => μ = m ∧ r = x % y) := by
  refine zMi_ofF (own := RJ9) (by decide +kernel) rfl (Nat.le_of_ble_eq_true rfl) ?_
  intro X hX C hrm E
  subst hX
  show zJ X 3 μ 0 [(0, .inl x), (1, .inl y)] []
  have hs := zxor_sign x hx.1 hx.2 y hy.1 hy.2
  have ht := tmod_mod (a := x) (b := y) (by omega)
  have hb1 := Int.tmod_lt_of_pos x (show 0 < y by omega)
  have hb2 : -y < Int.tmod x y := Int.lt_tmod_of_pos x (by omega)
  refine z_iload_n C dJ9_floorMod_7cf53_0 0 rfl ?_
  refine z_iload_n C dJ9_floorMod_7cf53_1 1 rfl ?_
  refine z_iremT C dJ9_floorMod_7cf53_2 (by omega) (by omega) ?_
  refine z_istore_n C dJ9_floorMod_7cf53_3 (by decide) (L' := [(0, _), (1, _), (2, _)]) rfl ?_
  refine z_iload_n C dJ9_floorMod_7cf53_4 0 rfl ?_
  refine z_iload_n C dJ9_floorMod_7cf53_5 1 rfl ?_
  refine z_ixor C dJ9_floorMod_7cf53_6 ?_
  refine z_if_ge C dJ9_floorMod_7cf53_7 (tgt := 18) (by decide) (by omega) (fun c1 => ?_) (fun c1 => ?_)
  · refine z_iload_n C dJ9_floorMod_7cf53_18 2 rfl ?_
    exact E dJ9_floorMod_7cf53_19 (by omega) rfl ⟨rfl, (by first | (rw [ht, if_pos (by omega)]) | (rw [ht, if_neg (by omega), if_pos (by omega)]; omega) | (rw [ht, if_neg (by omega), if_neg (by omega)]))⟩
  · refine z_iload_n C dJ9_floorMod_7cf53_10 2 rfl ?_
    refine z_if_eq C dJ9_floorMod_7cf53_11 (tgt := 18) (by decide) (by omega) (fun c2 => ?_) (fun c2 => ?_)
    · refine z_iload_n C dJ9_floorMod_7cf53_18 2 rfl ?_
      exact E dJ9_floorMod_7cf53_19 (by omega) rfl ⟨rfl, (by first | (rw [ht, if_pos (by omega)]) | (rw [ht, if_neg (by omega), if_pos (by omega)]; omega) | (rw [ht, if_neg (by omega), if_neg (by omega)]))⟩
    · refine z_iload_n C dJ9_floorMod_7cf53_14 2 rfl ?_
      refine z_iload_n C dJ9_floorMod_7cf53_15 1 rfl ?_
      refine z_iadd C dJ9_floorMod_7cf53_16 ?_
      exact E dJ9_floorMod_7cf53_17 (by omega) rfl ⟨rfl, (by first | (rw [ht, if_pos (by omega)]) | (rw [ht, if_neg (by omega), if_pos (by omega)]; omega) | (rw [ht, if_neg (by omega), if_neg (by omega)]))⟩
set_option maxHeartbeats 4000000 in
theorem c_J9_max_7cf53 (l : Launch) (μ : zM) (x y : Int) (hx : zR x) (hy : zR y) : zMi l yJ9_max_7cf53 cJ9_max_7cf53 2 (.int) 0 0 [.inl x, .inl y] μ (fun (r : Int) (m : zM) => μ = m ∧ (x ≤ r ∧ y ≤ r ∧ (r = x ∨ r = y))) := by
  refine zMi_ofF (own := RJ9) (by decide +kernel) rfl (Nat.le_of_ble_eq_true rfl) ?_
  intro X hX C hrm E
  subst hX
  show zJ X 2 μ 0 [(0, .inl x), (1, .inl y)] []
  refine z_iload_n C dJ9_max_7cf53_0 0 rfl ?_
  refine z_iload_n C dJ9_max_7cf53_1 1 rfl ?_
  refine z_icmp_lt C dJ9_max_7cf53_2 (tgt := 9) (by decide) (by omega) (by omega) (fun c1 => ?_) (fun c1 => ?_)
  · refine z_iload_n C dJ9_max_7cf53_9 1 rfl ?_
    exact E dJ9_max_7cf53_10 (by omega) rfl ⟨rfl, by omega⟩
  · refine z_iload_n C dJ9_max_7cf53_5 0 rfl ?_
    refine z_goto C dJ9_max_7cf53_6 (tgt := 10) (by decide) ?_
    exact E dJ9_max_7cf53_10 (by omega) rfl ⟨rfl, by omega⟩
set_option maxHeartbeats 4000000 in
theorem c_J9_min_7cf53 (l : Launch) (μ : zM) (x y : Int) (hx : zR x) (hy : zR y) : zMi l yJ9_min_7cf53 cJ9_min_7cf53 2 (.int) 0 0 [.inl x, .inl y] μ (fun (r : Int) (m : zM) => μ = m ∧ (r ≤ x ∧ r ≤ y ∧ (r = x ∨ r = y))) := by
  refine zMi_ofF (own := RJ9) (by decide +kernel) rfl (Nat.le_of_ble_eq_true rfl) ?_
  intro X hX C hrm E
  subst hX
  show zJ X 2 μ 0 [(0, .inl x), (1, .inl y)] []
  refine z_iload_n C dJ9_min_7cf53_0 0 rfl ?_
  refine z_iload_n C dJ9_min_7cf53_1 1 rfl ?_
  refine z_icmp_gt C dJ9_min_7cf53_2 (tgt := 9) (by decide) (by omega) (by omega) (fun c1 => ?_) (fun c1 => ?_)
  · refine z_iload_n C dJ9_min_7cf53_9 1 rfl ?_
    exact E dJ9_min_7cf53_10 (by omega) rfl ⟨rfl, by omega⟩
  · refine z_iload_n C dJ9_min_7cf53_5 0 rfl ?_
    refine z_goto C dJ9_min_7cf53_6 (tgt := 10) (by decide) ?_
    exact E dJ9_min_7cf53_10 (by omega) rfl ⟨rfl, by omega⟩
set_option maxHeartbeats 4000000 in
theorem c_X5_sideOf (l : Launch) (μ : zM) (x : Int) (hx : zR x) : zMi l yX5_sideOf cX5_sideOf 1 (.int) 0 0 [.inl x] μ (fun (r : Int) (m : zM) => μ = m ∧ ((x < 5 ∧ r = 0) ∨ (5 ≤ x ∧ r = 1))) := by
  refine zMi_of (own := RX5) (by decide +kernel) rfl (Nat.le_of_ble_eq_true rfl) ?_
  intro X hX C hrm E
  subst hX
  show zJ X 1 μ 0 [(0, .inl x)] []
  refine z_iload_n C dX5_sideOf_0 0 rfl ?_
  refine z_iconst C dX5_sideOf_1 ?_
  refine z_icmp_ge C dX5_sideOf_2 (tgt := 9) (by decide) (by omega) (by decide) (fun c1 => ?_) (fun c1 => ?_)
  · refine z_iconst C dX5_sideOf_9 ?_
    exact E dX5_sideOf_10 (by decide) rfl ⟨rfl, by omega⟩
  · refine z_iconst C dX5_sideOf_5 ?_
    refine z_goto C dX5_sideOf_6 (tgt := 10) (by decide) ?_
    exact E dX5_sideOf_10 (by decide) rfl ⟨rfl, by omega⟩
set_option maxHeartbeats 4000000 in
theorem c_X5_otherStart (l : Launch) (μ : zM) (x : Int) (hx : zR x) : zMi l yX5_otherStart cX5_otherStart 1 (.int) 0 0 [.inl x] μ (fun (r : Int) (m : zM) => μ = m ∧ ((x < 5 ∧ r = 5) ∨ (5 ≤ x ∧ r = 0))) := by
  refine zMi_of (own := RX5) (by decide +kernel) rfl (Nat.le_of_ble_eq_true rfl) ?_
  intro X hX C hrm E
  subst hX
  show zJ X 1 μ 0 [(0, .inl x)] []
  refine z_iload_n C dX5_otherStart_0 0 rfl ?_
  refine z_iconst C dX5_otherStart_1 ?_
  refine z_icmp_ge C dX5_otherStart_2 (tgt := 9) (by decide) (by omega) (by decide) (fun c1 => ?_) (fun c1 => ?_)
  · refine z_iconst C dX5_otherStart_9 ?_
    exact E dX5_otherStart_10 (by decide) rfl ⟨rfl, by omega⟩
  · refine z_iconst C dX5_otherStart_5 ?_
    refine z_goto C dX5_otherStart_6 (tgt := 10) (by decide) ?_
    exact E dX5_otherStart_10 (by decide) rfl ⟨rfl, by omega⟩
set_option maxHeartbeats 4000000 in
theorem c_X5_bitOf (l : Launch) (μ : zM) (x : Int) (hx : 0 ≤ x ∧ x < 10) : zMi l yX5_bitOf cX5_bitOf 1 (.int) 0 0 [.inl x] μ (fun (r : Int) (m : zM) => μ = m ∧ r = zbit x) := by
  refine zMi_of (own := RX5) (by decide +kernel) rfl (Nat.le_of_ble_eq_true rfl) ?_
  intro X hX C hrm E
  subst hX
  show zJ X 1 μ 0 [(0, .inl x)] []
  refine z_iconst C dX5_bitOf_0 ?_
  refine z_iload_n C dX5_bitOf_1 0 rfl ?_
  refine z_iconst C dX5_bitOf_2 ?_
  refine z_irem C dX5_bitOf_3 (by omega) ?_
  refine z_ishl C dX5_bitOf_4 ?_
  exact E dX5_bitOf_5 (by have := zbit_val x hx.1 hx.2; unfold zbit at this; omega) rfl ⟨rfl, rfl⟩
set_option maxHeartbeats 4000000 in
theorem c_X5_isLaw (l : Launch) (μ : zM) (x : Int) (hx : zR x) : zMi l yX5_isLaw cX5_isLaw 1 (.boolean) 0 0 [.inl x] μ (fun (r : Int) (m : zM) => μ = m ∧ ((r = 1 ∧ (0 ≤ x ∧ x ≤ 3)) ∨ (r = 0 ∧ ¬ (0 ≤ x ∧ x ≤ 3)))) := by
  refine zMi_of (own := RX5) (by decide +kernel) rfl (Nat.le_of_ble_eq_true rfl) ?_
  intro X hX C hrm E
  subst hX
  show zJ X 1 μ 0 [(0, .inl x)] []
  refine z_iload_n C dX5_isLaw_0 0 rfl ?_
  refine z_if_lt C dX5_isLaw_1 (tgt := 13) (by decide) (by omega) (fun c1 => ?_) (fun c1 => ?_)
  · refine z_iconst C dX5_isLaw_13 ?_
    exact E dX5_isLaw_14 (by decide) (z_nb (Or.inl rfl)) ⟨rfl, Or.inr ⟨rfl, by omega⟩⟩
  · refine z_iload_n C dX5_isLaw_4 0 rfl ?_
    refine z_iconst C dX5_isLaw_5 ?_
    refine z_icmp_gt C dX5_isLaw_6 (tgt := 13) (by decide) (by omega) (by decide) (fun c2 => ?_) (fun c2 => ?_)
    · refine z_iconst C dX5_isLaw_13 ?_
      exact E dX5_isLaw_14 (by decide) (z_nb (Or.inl rfl)) ⟨rfl, Or.inr ⟨rfl, by omega⟩⟩
    · refine z_iconst C dX5_isLaw_9 ?_
      refine z_goto C dX5_isLaw_10 (tgt := 14) (by decide) ?_
      exact E dX5_isLaw_14 (by decide) (z_nb (Or.inr rfl)) ⟨rfl, Or.inl ⟨rfl, by omega⟩⟩
set_option maxHeartbeats 4000000 in
theorem c_X4_isThere (l : Launch) (μ : zM) (t : Nat) (ht : zTo t) (v : zVw) (hv : zT μ t v) (ho : vOK v) (x : Int) (hx : zR x) : zMi l yX4_isThere cX4_isThere 2 (.boolean) 1 20 [.inr t, .inl x] μ (fun (r : Int) (m : zM) => μ = m ∧ ((r = 1 ∧ (vTh v x)) ∨ (r = 0 ∧ ¬ (vTh v x)))) := by
  refine zMi_of (own := RX4) (by decide +kernel) rfl (Nat.le_of_ble_eq_true rfl) ?_
  intro X hX C hrm E
  subst hX
  show zJ X 2 μ 0 [(0, .inr t), (1, .inl x)] []
  obtain ⟨hv1, hv2, hv3, hv4, hv5, hv6, hv7⟩ := id hv
  obtain ⟨ho1, ho2, ho3, ho4, ho5, ho6, ho7⟩ := id ho
  refine z_iload_n C dX4_isThere_0 1 rfl ?_
  refine z_if_lt C dX4_isThere_1 (tgt := 29) (by decide) (by omega) (fun c1 => ?_) (fun c1 => ?_)
  · refine z_iconst C dX4_isThere_29 ?_
    exact E dX4_isThere_30 (by decide) (z_nb (Or.inl rfl)) ⟨rfl, Or.inr ⟨rfl, by omega⟩⟩
  · refine z_iload_n C dX4_isThere_4 1 rfl ?_
    refine z_bipush C dX4_isThere_5 (by decide) ?_
    refine z_icmp_ge C dX4_isThere_7 (tgt := 29) (by decide) (by omega) (by decide) (fun c2 => ?_) (fun c2 => ?_)
    · refine z_iconst C dX4_isThere_29 ?_
      exact E dX4_isThere_30 (by decide) (z_nb (Or.inl rfl)) ⟨rfl, Or.inr ⟨rfl, by omega⟩⟩
    · refine z_iload_n C dX4_isThere_10 1 rfl ?_
      refine z_iconst C dX4_isThere_11 ?_
      refine z_irem C dX4_isThere_12 (by omega) ?_
      refine z_aload_n C dX4_isThere_13 0 rfl ?_
      refine z_getR C ffX4_9 dX4_isThere_14 (by have := zto_lt ht; omega) (zd_to0 ht) rfl ?_
      refine z_iload_n C dX4_isThere_17 1 rfl ?_
      refine z_callNi C (c_X5_sideOf (zl X) μ x (by omega)) yyX5_sideOf (by decide +kernel) dX4_isThere_18 rfl rfl (Nat.le_of_ble_eq_true rfl) (by decide) (fun r3 m3 hr3 hp3 => ?_)
      obtain ⟨rfl, hp3⟩ := hp3
      rcases hp3 with ⟨hp3, rfl⟩ | ⟨hp3, rfl⟩
      · refine z_iald C dX4_isThere_21 (by have := zto_lt ht; omega) (zd_to1 ht) (by decide) (by decide) (fun hr4 => ?_)
        refine z_icmp_ge C dX4_isThere_22 (tgt := 29) (by decide) (by omega) (by omega) (fun c5 => ?_) (fun c5 => ?_)
        · refine z_iconst C dX4_isThere_29 ?_
          exact E dX4_isThere_30 (by decide) (z_nb (Or.inl rfl)) ⟨rfl, Or.inr ⟨rfl, by omega⟩⟩
        · refine z_iconst C dX4_isThere_25 ?_
          refine z_goto C dX4_isThere_26 (tgt := 30) (by decide) ?_
          exact E dX4_isThere_30 (by decide) (z_nb (Or.inr rfl)) ⟨rfl, Or.inl ⟨rfl, by omega⟩⟩
      · refine z_iald C dX4_isThere_21 (by have := zto_lt ht; omega) (zd_to1 ht) (by decide) (by decide) (fun hr6 => ?_)
        refine z_icmp_ge C dX4_isThere_22 (tgt := 29) (by decide) (by omega) (by omega) (fun c7 => ?_) (fun c7 => ?_)
        · refine z_iconst C dX4_isThere_29 ?_
          exact E dX4_isThere_30 (by decide) (z_nb (Or.inl rfl)) ⟨rfl, Or.inr ⟨rfl, by omega⟩⟩
        · refine z_iconst C dX4_isThere_25 ?_
          refine z_goto C dX4_isThere_26 (tgt := 30) (by decide) ?_
          exact E dX4_isThere_30 (by decide) (z_nb (Or.inr rfl)) ⟨rfl, Or.inl ⟨rfl, by omega⟩⟩
set_option maxHeartbeats 4000000 in
theorem c_X4_areUnlike (l : Launch) (μ : zM) (t : Nat) (ht : zTo t) (v : zVw) (hv : zT μ t v) (ho : vOK v) (x y : Int) (hx : zR x) (hy : zR y) : zMi l yX4_areUnlike cX4_areUnlike 3 (.boolean) 2 41 [.inr t, .inl x, .inl y] μ (fun (r : Int) (m : zM) => μ = m ∧ ((r = 1 ∧ (vTh v x ∧ vTh v y ∧ zU x y)) ∨ (r = 0 ∧ ¬ (vTh v x ∧ vTh v y ∧ zU x y)))) := by
  refine zMi_of (own := RX4) (by decide +kernel) rfl (Nat.le_of_ble_eq_true rfl) ?_
  intro X hX C hrm E
  subst hX
  show zJ X 3 μ 0 [(0, .inr t), (1, .inl x), (2, .inl y)] []
  obtain ⟨hv1, hv2, hv3, hv4, hv5, hv6, hv7⟩ := id hv
  obtain ⟨ho1, ho2, ho3, ho4, ho5, ho6, ho7⟩ := id ho
  refine z_aload_n C dX4_areUnlike_0 0 rfl ?_
  refine z_iload_n C dX4_areUnlike_1 1 rfl ?_
  refine z_callVi C (c_X4_isThere (zl X) μ t ht v hv ho x (by omega)) yyX4_isThere mlX4_44 (zRc_of C (by have := zto_lt ht; omega) (zd_to0 ht) rfl) dX4_areUnlike_2 rfl rfl (Nat.le_of_ble_eq_true rfl) (by decide) (fun r1 m1 hr1 hp1 => ?_)
  obtain ⟨rfl, hp1⟩ := hp1
  rcases hp1 with ⟨rfl, hp1⟩ | ⟨rfl, hp1⟩
  · refine z_if_eq C dX4_areUnlike_5 (tgt := 31) (by decide) (by decide) (fun c2 => (by exfalso; omega)) (fun _ => ?_)
    refine z_aload_n C dX4_areUnlike_8 0 rfl ?_
    refine z_iload_n C dX4_areUnlike_9 2 rfl ?_
    refine z_callVi C (c_X4_isThere (zl X) μ t ht v hv ho y (by omega)) yyX4_isThere mlX4_44 (zRc_of C (by have := zto_lt ht; omega) (zd_to0 ht) rfl) dX4_areUnlike_10 rfl rfl (Nat.le_of_ble_eq_true rfl) (by decide) (fun r3 m3 hr3 hp3 => ?_)
    obtain ⟨rfl, hp3⟩ := hp3
    rcases hp3 with ⟨rfl, hp3⟩ | ⟨rfl, hp3⟩
    · refine z_if_eq C dX4_areUnlike_13 (tgt := 31) (by decide) (by decide) (fun c4 => (by exfalso; omega)) (fun _ => ?_)
      refine z_iload_n C dX4_areUnlike_16 1 rfl ?_
      refine z_callNi C (c_X5_sideOf (zl X) μ x (by omega)) yyX5_sideOf (by decide +kernel) dX4_areUnlike_17 rfl rfl (Nat.le_of_ble_eq_true rfl) (by decide) (fun r5 m5 hr5 hp5 => ?_)
      obtain ⟨rfl, hp5⟩ := hp5
      rcases hp5 with ⟨hp5, rfl⟩ | ⟨hp5, rfl⟩
      · refine z_iload_n C dX4_areUnlike_20 2 rfl ?_
        refine z_callNi C (c_X5_sideOf (zl X) μ y (by omega)) yyX5_sideOf (by decide +kernel) dX4_areUnlike_21 rfl rfl (Nat.le_of_ble_eq_true rfl) (by decide) (fun r6 m6 hr6 hp6 => ?_)
        obtain ⟨rfl, hp6⟩ := hp6
        rcases hp6 with ⟨hp6, rfl⟩ | ⟨hp6, rfl⟩
        · refine z_icmp_eq C dX4_areUnlike_24 (tgt := 31) (by decide) (by decide) (by decide) (fun _ => ?_) (fun c7 => (by exfalso; omega))
          refine z_iconst C dX4_areUnlike_31 ?_
          exact E dX4_areUnlike_32 (by decide) (z_nb (Or.inl rfl)) ⟨rfl, Or.inr ⟨rfl, by omega⟩⟩
        · refine z_icmp_eq C dX4_areUnlike_24 (tgt := 31) (by decide) (by decide) (by decide) (fun c8 => (by exfalso; omega)) (fun _ => ?_)
          refine z_iconst C dX4_areUnlike_27 ?_
          refine z_goto C dX4_areUnlike_28 (tgt := 32) (by decide) ?_
          exact E dX4_areUnlike_32 (by decide) (z_nb (Or.inr rfl)) ⟨rfl, Or.inl ⟨rfl, by omega⟩⟩
      · refine z_iload_n C dX4_areUnlike_20 2 rfl ?_
        refine z_callNi C (c_X5_sideOf (zl X) μ y (by omega)) yyX5_sideOf (by decide +kernel) dX4_areUnlike_21 rfl rfl (Nat.le_of_ble_eq_true rfl) (by decide) (fun r9 m9 hr9 hp9 => ?_)
        obtain ⟨rfl, hp9⟩ := hp9
        rcases hp9 with ⟨hp9, rfl⟩ | ⟨hp9, rfl⟩
        · refine z_icmp_eq C dX4_areUnlike_24 (tgt := 31) (by decide) (by decide) (by decide) (fun c10 => (by exfalso; omega)) (fun _ => ?_)
          refine z_iconst C dX4_areUnlike_27 ?_
          refine z_goto C dX4_areUnlike_28 (tgt := 32) (by decide) ?_
          exact E dX4_areUnlike_32 (by decide) (z_nb (Or.inr rfl)) ⟨rfl, Or.inl ⟨rfl, by omega⟩⟩
        · refine z_icmp_eq C dX4_areUnlike_24 (tgt := 31) (by decide) (by decide) (by decide) (fun _ => ?_) (fun c11 => (by exfalso; omega))
          refine z_iconst C dX4_areUnlike_31 ?_
          exact E dX4_areUnlike_32 (by decide) (z_nb (Or.inl rfl)) ⟨rfl, Or.inr ⟨rfl, by omega⟩⟩
    · refine z_if_eq C dX4_areUnlike_13 (tgt := 31) (by decide) (by decide) (fun _ => ?_) (fun c12 => (by exfalso; omega))
      refine z_iconst C dX4_areUnlike_31 ?_
      exact E dX4_areUnlike_32 (by decide) (z_nb (Or.inl rfl)) ⟨rfl, Or.inr ⟨rfl, by omega⟩⟩
  · refine z_if_eq C dX4_areUnlike_5 (tgt := 31) (by decide) (by decide) (fun _ => ?_) (fun c13 => (by exfalso; omega))
    refine z_iconst C dX4_areUnlike_31 ?_
    exact E dX4_areUnlike_32 (by decide) (z_nb (Or.inl rfl)) ⟨rfl, Or.inr ⟨rfl, by omega⟩⟩
set_option maxHeartbeats 4000000 in
theorem c_X4_howManyPeople (l : Launch) (μ : zM) (t : Nat) (ht : zTo t) (v : zVw) (hv : zT μ t v) (ho : vOK v) : zMi l yX4_howManyPeople cX4_howManyPeople 1 (.int) 0 0 [.inr t] μ (fun (r : Int) (m : zM) => μ = m ∧ r = vL v + vR v) := by
  refine zMi_of (own := RX4) (by decide +kernel) rfl (Nat.le_of_ble_eq_true rfl) ?_
  intro X hX C hrm E
  subst hX
  show zJ X 1 μ 0 [(0, .inr t)] []
  obtain ⟨hv1, hv2, hv3, hv4, hv5, hv6, hv7⟩ := id hv
  obtain ⟨ho1, ho2, ho3, ho4, ho5, ho6, ho7⟩ := id ho
  refine z_aload_n C dX4_howManyPeople_0 0 rfl ?_
  refine z_getR C ffX4_9 dX4_howManyPeople_1 (by have := zto_lt ht; omega) (zd_to0 ht) rfl ?_
  refine z_iconst C dX4_howManyPeople_4 ?_
  refine z_iald C dX4_howManyPeople_5 (by have := zto_lt ht; omega) (zd_to1 ht) (by decide) (by decide) (fun hr1 => ?_)
  refine z_aload_n C dX4_howManyPeople_6 0 rfl ?_
  refine z_getR C ffX4_9 dX4_howManyPeople_7 (by have := zto_lt ht; omega) (zd_to0 ht) rfl ?_
  refine z_iconst C dX4_howManyPeople_10 ?_
  refine z_iald C dX4_howManyPeople_11 (by have := zto_lt ht; omega) (zd_to1 ht) (by decide) (by decide) (fun hr2 => ?_)
  refine z_iadd C dX4_howManyPeople_12 ?_
  exact E dX4_howManyPeople_13 (by omega) rfl ⟨rfl, by omega⟩
set_option maxHeartbeats 4000000 in
theorem c_X4_howManyFacing (l : Launch) (μ : zM) (t : Nat) (ht : zTo t) (v : zVw) (hv : zT μ t v) (ho : vOK v) (x : Int) (hx : zR x) : zMi l yX4_howManyFacing cX4_howManyFacing 2 (.int) 1 20 [.inr t, .inl x] μ (fun (r : Int) (m : zM) => μ = m ∧ ((x < 5 ∧ r = vR v) ∨ (5 ≤ x ∧ r = vL v))) := by
  refine zMi_of (own := RX4) (by decide +kernel) rfl (Nat.le_of_ble_eq_true rfl) ?_
  intro X hX C hrm E
  subst hX
  show zJ X 2 μ 0 [(0, .inr t), (1, .inl x)] []
  obtain ⟨hv1, hv2, hv3, hv4, hv5, hv6, hv7⟩ := id hv
  obtain ⟨ho1, ho2, ho3, ho4, ho5, ho6, ho7⟩ := id ho
  refine z_aload_n C dX4_howManyFacing_0 0 rfl ?_
  refine z_getR C ffX4_9 dX4_howManyFacing_1 (by have := zto_lt ht; omega) (zd_to0 ht) rfl ?_
  refine z_iconst C dX4_howManyFacing_4 ?_
  refine z_iload_n C dX4_howManyFacing_5 1 rfl ?_
  refine z_callNi C (c_X5_sideOf (zl X) μ x (by omega)) yyX5_sideOf (by decide +kernel) dX4_howManyFacing_6 rfl rfl (Nat.le_of_ble_eq_true rfl) (by decide) (fun r1 m1 hr1 hp1 => ?_)
  obtain ⟨rfl, hp1⟩ := hp1
  rcases hp1 with ⟨hp1, rfl⟩ | ⟨hp1, rfl⟩
  · refine z_isub C dX4_howManyFacing_9 ?_
    refine z_iald C dX4_howManyFacing_10 (by have := zto_lt ht; omega) (zd_to1 ht) (by omega) (by decide) (fun hr2 => ?_)
    exact E dX4_howManyFacing_11 (by have e1 : (1 : Int) - 0 = 1 := rfl; have e2 : (1 : Int) - 1 = 0 := rfl; simp only [e1, e2] at *; omega) rfl ⟨rfl, by have e1 : (1 : Int) - 0 = 1 := rfl; have e2 : (1 : Int) - 1 = 0 := rfl; simp only [e1, e2] at *; omega⟩
  · refine z_isub C dX4_howManyFacing_9 ?_
    refine z_iald C dX4_howManyFacing_10 (by have := zto_lt ht; omega) (zd_to1 ht) (by omega) (by decide) (fun hr3 => ?_)
    exact E dX4_howManyFacing_11 (by have e1 : (1 : Int) - 0 = 1 := rfl; have e2 : (1 : Int) - 1 = 0 := rfl; simp only [e1, e2] at *; omega) rfl ⟨rfl, by have e1 : (1 : Int) - 0 = 1 := rfl; have e2 : (1 : Int) - 1 = 0 := rfl; simp only [e1, e2] at *; omega⟩
set_option maxHeartbeats 4000000 in
theorem c_X4_rounds (l : Launch) (μ : zM) (t : Nat) (ht : zTo t) (v : zVw) (hv : zT μ t v) (ho : vOK v) : zMi l yX4_rounds cX4_rounds 1 (.int) 1 21 [.inr t] μ (fun (r : Int) (m : zM) => μ = m ∧ r = vN v) := by
  refine zMi_of (own := RX4) (by decide +kernel) rfl (Nat.le_of_ble_eq_true rfl) ?_
  intro X hX C hrm E
  subst hX
  show zJ X 1 μ 0 [(0, .inr t)] []
  obtain ⟨hv1, hv2, hv3, hv4, hv5, hv6, hv7⟩ := id hv
  obtain ⟨ho1, ho2, ho3, ho4, ho5, ho6, ho7⟩ := id ho
  refine z_aload_n C dX4_rounds_0 0 rfl ?_
  refine z_getR C ffX4_9 dX4_rounds_1 (by have := zto_lt ht; omega) (zd_to0 ht) rfl ?_
  refine z_iconst C dX4_rounds_4 ?_
  refine z_iald C dX4_rounds_5 (by have := zto_lt ht; omega) (zd_to1 ht) (by decide) (by decide) (fun hr1 => ?_)
  refine z_aload_n C dX4_rounds_6 0 rfl ?_
  refine z_getR C ffX4_9 dX4_rounds_7 (by have := zto_lt ht; omega) (zd_to0 ht) rfl ?_
  refine z_iconst C dX4_rounds_10 ?_
  refine z_iald C dX4_rounds_11 (by have := zto_lt ht; omega) (zd_to1 ht) (by decide) (by decide) (fun hr2 => ?_)
  refine z_callSi C (c_J9_max_7cf53 (zl X) μ (μ (t + 1) 0) (μ (t + 1) 1) (by omega) (by omega)) yyJ9_max_7cf53 mlX4_48 dX4_rounds_12 rfl rfl (Nat.le_of_ble_eq_true rfl) (by decide) (fun r3 m3 hr3 hp3 => ?_)
  obtain ⟨rfl, hp3⟩ := hp3
  exact E dX4_rounds_15 (by omega) rfl ⟨rfl, (by unfold vN; split <;> omega)⟩
set_option maxHeartbeats 4000000 in
theorem c_X4_isRound (l : Launch) (μ : zM) (t : Nat) (ht : zTo t) (v : zVw) (hv : zT μ t v) (ho : vOK v) (x : Int) (hx : zR x) : zMi l yX4_isRound cX4_isRound 2 (.boolean) 2 41 [.inr t, .inl x] μ (fun (r : Int) (m : zM) => μ = m ∧ ((r = 1 ∧ (0 ≤ x ∧ x < vN v)) ∨ (r = 0 ∧ ¬ (0 ≤ x ∧ x < vN v)))) := by
  refine zMi_of (own := RX4) (by decide +kernel) rfl (Nat.le_of_ble_eq_true rfl) ?_
  intro X hX C hrm E
  subst hX
  show zJ X 2 μ 0 [(0, .inr t), (1, .inl x)] []
  obtain ⟨hv1, hv2, hv3, hv4, hv5, hv6, hv7⟩ := id hv
  obtain ⟨ho1, ho2, ho3, ho4, ho5, ho6, ho7⟩ := id ho
  have hN := vN_ok ho
  refine z_iload_n C dX4_isRound_0 1 rfl ?_
  refine z_if_lt C dX4_isRound_1 (tgt := 16) (by decide) (by omega) (fun c1 => ?_) (fun c1 => ?_)
  · refine z_iconst C dX4_isRound_16 ?_
    exact E dX4_isRound_17 (by decide) (z_nb (Or.inl rfl)) ⟨rfl, Or.inr ⟨rfl, by omega⟩⟩
  · refine z_iload_n C dX4_isRound_4 1 rfl ?_
    refine z_aload_n C dX4_isRound_5 0 rfl ?_
    refine z_callVi C (c_X4_rounds (zl X) μ t ht v hv ho) yyX4_rounds mlX4_54 (zRc_of C (by have := zto_lt ht; omega) (zd_to0 ht) rfl) dX4_isRound_6 rfl rfl (Nat.le_of_ble_eq_true rfl) (by decide) (fun r2 m2 hr2 hp2 => ?_)
    obtain ⟨rfl, hp2⟩ := hp2
    refine z_icmp_ge C dX4_isRound_9 (tgt := 16) (by decide) (by omega) (by omega) (fun c3 => ?_) (fun c3 => ?_)
    · refine z_iconst C dX4_isRound_16 ?_
      exact E dX4_isRound_17 (by decide) (z_nb (Or.inl rfl)) ⟨rfl, Or.inr ⟨rfl, by omega⟩⟩
    · refine z_iconst C dX4_isRound_12 ?_
      refine z_goto C dX4_isRound_13 (tgt := 17) (by decide) ?_
      exact E dX4_isRound_17 (by decide) (z_nb (Or.inr rfl)) ⟨rfl, Or.inl ⟨rfl, by omega⟩⟩
set_option maxHeartbeats 4000000 in
theorem c_X4_likes (l : Launch) (μ : zM) (t : Nat) (ht : zTo t) (v : zVw) (hv : zT μ t v) (ho : vOK v) (x y : Int) (hxy : zU x y) : zMi l yX4_likes cX4_likes 3 (.int) 0 0 [.inr t, .inl x, .inl y] μ (fun (r : Int) (m : zM) => μ = m ∧ r = vA v x y) := by
  refine zMi_of (own := RX4) (by decide +kernel) rfl (Nat.le_of_ble_eq_true rfl) ?_
  intro X hX C hrm E
  subst hX
  show zJ X 3 μ 0 [(0, .inr t), (1, .inl x), (2, .inl y)] []
  obtain ⟨hv1, hv2, hv3, hv4, hv5, hv6, hv7⟩ := id hv
  obtain ⟨ho1, ho2, ho3, ho4, ho5, ho6, ho7⟩ := id ho
  refine z_aload_n C dX4_likes_0 0 rfl ?_
  refine z_getR C ffX4_21 dX4_likes_1 (by have := zto_lt ht; omega) (zd_to0 ht) rfl ?_
  refine z_iload_n C dX4_likes_4 1 rfl ?_
  refine z_bipush C dX4_likes_5 (by decide) ?_
  refine z_imul C dX4_likes_7 ?_
  refine z_iload_n C dX4_likes_8 2 rfl ?_
  refine z_iadd C dX4_likes_9 ?_
  refine z_iald C dX4_likes_10 (by have := zto_lt ht; omega) (zd_to4 ht) (by omega) (by decide) (fun hr1 => ?_)
  exact E dX4_likes_11 (by omega) rfl ⟨rfl, hv7 x y hxy⟩
set_option maxHeartbeats 4000000 in
theorem c_X4_setLiking (l : Launch) (μ : zM) (t : Nat) (ht : zTo t) (x y z : Int) (hx : 0 ≤ x ∧ x < 10) (hy : 0 ≤ y ∧ y < 10) (hz : 0 ≤ z ∧ z < 10) : zMv l yX4_setLiking cX4_setLiking 4 0 0 [.inr t, .inl x, .inl y, .inl z] μ (fun (m : zM) => m = zs μ (t + 4) (x * 10 + y) z) := by
  refine zMv_of (own := RX4) (by decide +kernel) rfl (Nat.le_of_ble_eq_true rfl) ?_
  intro X hX C hrm E
  subst hX
  show zJ X 4 μ 0 [(0, .inr t), (1, .inl x), (2, .inl y), (3, .inl z)] []
  refine z_aload_n C dX4_setLiking_0 0 rfl ?_
  refine z_getR C ffX4_21 dX4_setLiking_1 (by have := zto_lt ht; omega) (zd_to0 ht) rfl ?_
  refine z_iload_n C dX4_setLiking_4 1 rfl ?_
  refine z_bipush C dX4_setLiking_5 (by decide) ?_
  refine z_imul C dX4_setLiking_7 ?_
  refine z_iload_n C dX4_setLiking_8 2 rfl ?_
  refine z_iadd C dX4_setLiking_9 ?_
  refine z_iload_n C dX4_setLiking_10 3 rfl ?_
  refine z_iast C dX4_setLiking_11 (by have := zto_lt ht; omega) (zd_to4 ht) (by omega) (by decide) (by omega) ?_
  refine z_mem (fun m1 em1 => ?_)
  exact E dX4_setLiking_12 (by assumption)
