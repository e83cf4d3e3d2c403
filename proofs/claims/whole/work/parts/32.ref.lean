/-! contracts: the reference, who meets, feels, says -/
set_option maxHeartbeats 4000000 in
theorem c_X6_in (l : Launch) (μ : zM) (x a b : Int) (hx : zR x) (ha : zR a) (hb : zR b) : zMi l yX6_in cX6_in 4 (.boolean) 0 0 [.inr 31, .inl x, .inl a, .inl b] μ (fun (r : Int) (m : zM) => μ = m ∧ ((r = 1 ∧ (a ≤ x ∧ x ≤ b)) ∨ (r = 0 ∧ ¬ (a ≤ x ∧ x ≤ b)))) := by
  refine zMi_of (own := RX6) (by decide +kernel) rfl (Nat.le_of_ble_eq_true rfl) ?_
  intro X hX C hrm E
  subst hX
  show zJ X 4 μ 0 [(0, .inr 31), (1, .inl x), (2, .inl a), (3, .inl b)] []
  refine z_iload_n C dX6_in_0 1 rfl ?_
  refine z_iload_n C dX6_in_1 2 rfl ?_
  refine z_icmp_lt C dX6_in_2 (tgt := 14) (by decide) (by omega) (by omega) (fun c1 => ?_) (fun c1 => ?_)
  · refine z_iconst C dX6_in_14 ?_
    exact E dX6_in_15 (by decide) (z_nb (Or.inl rfl)) ⟨rfl, Or.inr ⟨rfl, by omega⟩⟩
  · refine z_iload_n C dX6_in_5 1 rfl ?_
    refine z_iload_n C dX6_in_6 3 rfl ?_
    refine z_icmp_gt C dX6_in_7 (tgt := 14) (by decide) (by omega) (by omega) (fun c2 => ?_) (fun c2 => ?_)
    · refine z_iconst C dX6_in_14 ?_
      exact E dX6_in_15 (by decide) (z_nb (Or.inl rfl)) ⟨rfl, Or.inr ⟨rfl, by omega⟩⟩
    · refine z_iconst C dX6_in_10 ?_
      refine z_goto C dX6_in_11 (tgt := 15) (by decide) ?_
      exact E dX6_in_15 (by decide) (z_nb (Or.inr rfl)) ⟨rfl, Or.inl ⟨rfl, by omega⟩⟩
set_option maxHeartbeats 4000000 in
theorem c_X6_has (l : Launch) (μ : zM) (s j : Int) (hs : 0 ≤ s ∧ s < 32) (hj : 0 ≤ j ∧ j < 5) : zMi l yX6_has cX6_has 3 (.boolean) 0 0 [.inr 31, .inl s, .inl j] μ (fun (r : Int) (m : zM) => μ = m ∧ ((r = 1 ∧ (¬ zand s (zbit j) = 0)) ∨ (r = 0 ∧ ¬ (¬ zand s (zbit j) = 0)))) := by
  refine zMi_of (own := RX6) (by decide +kernel) rfl (Nat.le_of_ble_eq_true rfl) ?_
  intro X hX C hrm E
  subst hX
  show zJ X 3 μ 0 [(0, .inr 31), (1, .inl s), (2, .inl j)] []
  have hh := zhas_t s hs.1 hs.2 j hj.1 hj.2
  have hr2 := zand_R (zshr s j) 1
  refine z_iload_n C dX6_has_0 1 rfl ?_
  refine z_iload_n C dX6_has_1 2 rfl ?_
  refine z_ishr C dX6_has_2 ?_
  refine z_iconst C dX6_has_3 ?_
  refine z_iand C dX6_has_4 ?_
  refine z_iconst C dX6_has_5 ?_
  refine z_icmp_ne C dX6_has_6 (tgt := 13) (by decide) (by omega) (by decide) (fun c1 => ?_) (fun c1 => ?_)
  · refine z_iconst C dX6_has_13 ?_
    exact E dX6_has_14 (by decide) (z_nb (Or.inl rfl)) ⟨rfl, Or.inr ⟨rfl, by omega⟩⟩
  · refine z_iconst C dX6_has_9 ?_
    refine z_goto C dX6_has_10 (tgt := 14) (by decide) ?_
    exact E dX6_has_14 (by decide) (z_nb (Or.inr rfl)) ⟨rfl, Or.inl ⟨rfl, by omega⟩⟩
set_option maxHeartbeats 4000000 in
theorem c_X6_no (l : Launch) (μ : zM) (k : Int) (hk : 1 ≤ k ∧ k ≤ 6) : zMi l yX6_no cX6_no 2 (.int) 0 0 [.inr 31, .inl (-k)] μ (fun (r : Int) (m : zM) => r = -k ∧ m = zs μ 37 k (zw (μ 37 k + 1))) := by
  refine zMi_of (own := RX6) (by decide +kernel) rfl (Nat.le_of_ble_eq_true rfl) ?_
  intro X hX C hrm E
  subst hX
  show zJ X 2 μ 0 [(0, .inr 31), (1, .inl (-k))] []
  refine z_aload_n C dX6_no_0 0 rfl ?_
  refine z_getR C ffX6_47 dX6_no_1 (by decide) rfl rfl ?_
  refine z_iload_n C dX6_no_4 1 rfl ?_
  refine z_ineg C dX6_no_5 ?_
  rw [show -(-k) = k by omega]
  refine z_dup2 C dX6_no_6 ?_
  refine z_iald C dX6_no_7 (by decide) rfl (by omega) (by decide) (fun hr1 => ?_)
  refine z_iconst C dX6_no_8 ?_
  refine z_iadd C dX6_no_9 ?_
  refine z_iastw C dX6_no_10 (by decide) rfl (by omega) (by decide) ?_
  refine z_mem (fun m2 em2 => ?_)
  refine z_iload_n C dX6_no_11 1 rfl ?_
  exact E dX6_no_12 (by omega) rfl ⟨rfl, (by assumption)⟩
set_option maxHeartbeats 4000000 in
theorem c_X6_isOf (l : Launch) (μ : zM) (x a b : Int) (hx : zR x) (ha : 0 ≤ a ∧ a ≤ 1000) (hb : 0 ≤ b ∧ b ≤ 1000) : zMi l yX6_isOf cX6_isOf 4 (.boolean) 1 23 [.inr 31, .inl x, .inl a, .inl b] μ (fun (r : Int) (m : zM) => μ = m ∧ ((r = 1 ∧ ((0 ≤ x ∧ x < a) ∨ (5 ≤ x ∧ x < 5 + b))) ∨ (r = 0 ∧ ¬ ((0 ≤ x ∧ x < a) ∨ (5 ≤ x ∧ x < 5 + b))))) := by
  refine zMi_of (own := RX6) (by decide +kernel) rfl (Nat.le_of_ble_eq_true rfl) ?_
  intro X hX C hrm E
  subst hX
  show zJ X 4 μ 0 [(0, .inr 31), (1, .inl x), (2, .inl a), (3, .inl b)] []
  refine z_aload_n C dX6_isOf_0 0 rfl ?_
  refine z_iload_n C dX6_isOf_1 1 rfl ?_
  refine z_iconst C dX6_isOf_2 ?_
  refine z_iload_n C dX6_isOf_3 2 rfl ?_
  refine z_iconst C dX6_isOf_4 ?_
  refine z_isub C dX6_isOf_5 ?_
  refine z_callVi C (c_X6_in (zl X) μ x 0 (a - 1) (by omega) (by omega) (by omega)) yyX6_in mlX6_117 (zRc_of (i := 31) C (by decide) rfl rfl) dX6_isOf_6 rfl rfl (Nat.le_of_ble_eq_true rfl) (by decide) (fun r1 m1 hr1 hp1 => ?_)
  obtain ⟨rfl, hp1⟩ := hp1
  rcases hp1 with ⟨rfl, hp1⟩ | ⟨rfl, hp1⟩
  · refine z_if_ne C dX6_isOf_9 (tgt := 24) (by decide) (by decide) (fun _ => ?_) (fun c2 => (by exfalso; omega))
    refine z_iconst C dX6_isOf_24 ?_
    refine z_goto C dX6_isOf_25 (tgt := 29) (by decide) ?_
    exact E dX6_isOf_29 (by decide) (z_nb (Or.inr rfl)) ⟨rfl, Or.inl ⟨rfl, by omega⟩⟩
  · refine z_if_ne C dX6_isOf_9 (tgt := 24) (by decide) (by decide) (fun c3 => (by exfalso; omega)) (fun _ => ?_)
    refine z_aload_n C dX6_isOf_12 0 rfl ?_
    refine z_iload_n C dX6_isOf_13 1 rfl ?_
    refine z_iconst C dX6_isOf_14 ?_
    refine z_iconst C dX6_isOf_15 ?_
    refine z_iload_n C dX6_isOf_16 3 rfl ?_
    refine z_iadd C dX6_isOf_17 ?_
    refine z_callVi C (c_X6_in (zl X) μ x 5 (4 + b) (by omega) (by omega) (by omega)) yyX6_in mlX6_117 (zRc_of (i := 31) C (by decide) rfl rfl) dX6_isOf_18 rfl rfl (Nat.le_of_ble_eq_true rfl) (by decide) (fun r4 m4 hr4 hp4 => ?_)
    obtain ⟨rfl, hp4⟩ := hp4
    rcases hp4 with ⟨rfl, hp4⟩ | ⟨rfl, hp4⟩
    · refine z_if_eq C dX6_isOf_21 (tgt := 28) (by decide) (by decide) (fun c5 => (by exfalso; omega)) (fun _ => ?_)
      refine z_iconst C dX6_isOf_24 ?_
      refine z_goto C dX6_isOf_25 (tgt := 29) (by decide) ?_
      exact E dX6_isOf_29 (by decide) (z_nb (Or.inr rfl)) ⟨rfl, Or.inl ⟨rfl, by omega⟩⟩
    · refine z_if_eq C dX6_isOf_21 (tgt := 28) (by decide) (by decide) (fun _ => ?_) (fun c6 => (by exfalso; omega))
      refine z_iconst C dX6_isOf_28 ?_
      exact E dX6_isOf_29 (by decide) (z_nb (Or.inl rfl)) ⟨rfl, Or.inr ⟨rfl, by omega⟩⟩
set_option maxHeartbeats 4000000 in
theorem c_X6_isPerson (l : Launch) (μ : zM) (v : zVw) (hq : zQ μ v) (ho : vOK v) (p : Int) (hp : zR p) : zMi l yX6_isPerson cX6_isPerson 2 (.boolean) 2 46 [.inr 31, .inl p] μ (fun (r : Int) (m : zM) => μ = m ∧ ((r = 1 ∧ (vTh v p)) ∨ (r = 0 ∧ ¬ (vTh v p)))) := by
  refine zMi_of (own := RX6) (by decide +kernel) rfl (Nat.le_of_ble_eq_true rfl) ?_
  intro X hX C hrm E
  subst hX
  show zJ X 2 μ 0 [(0, .inr 31), (1, .inl p)] []
  obtain ⟨hq1, hq2, hq3, hq4, hq5, hq6, hq7⟩ := id hq
  obtain ⟨ho1, ho2, ho3, ho4, ho5, ho6, ho7⟩ := id ho
  have hN := vN_ok ho
  refine z_aload_n C dX6_isPerson_0 0 rfl ?_
  refine z_iload_n C dX6_isPerson_1 1 rfl ?_
  refine z_aload_n C dX6_isPerson_2 0 rfl ?_
  refine z_getI C ffX6_7 dX6_isPerson_3 (by decide) rfl rfl 0 rfl (fun hr1 => ?_)
  rw [hq1]
  refine z_aload_n C dX6_isPerson_6 0 rfl ?_
  refine z_getI C ffX6_13 dX6_isPerson_7 (by decide) rfl rfl 1 rfl (fun hr2 => ?_)
  rw [hq2]
  refine z_callVi C (c_X6_isOf (zl X) μ p (vL v) (vR v) (by omega) (by omega) (by omega)) yyX6_isOf mlX6_121 (zRc_of (i := 31) C (by decide) rfl rfl) dX6_isPerson_10 rfl rfl (Nat.le_of_ble_eq_true rfl) (by decide) (fun r3 m3 hr3 hp3 => ?_)
  obtain ⟨rfl, hp3⟩ := hp3
  have hz := hp3
  exact E dX6_isPerson_13 (by omega) (z_nb (by omega)) ⟨rfl, by omega⟩
set_option maxHeartbeats 4000000 in
theorem c_X6_areTwo (l : Launch) (μ : zM) (v : zVw) (hq : zQ μ v) (ho : vOK v) (a b : Int) (ha : zR a) (hb : zR b) : zMi l yX6_areTwo cX6_areTwo 3 (.boolean) 3 67 [.inr 31, .inl a, .inl b] μ (fun (r : Int) (m : zM) => μ = m ∧ ((r = 1 ∧ (zTw v a b)) ∨ (r = 0 ∧ ¬ (zTw v a b)))) := by
  refine zMi_of (own := RX6) (by decide +kernel) rfl (Nat.le_of_ble_eq_true rfl) ?_
  intro X hX C hrm E
  subst hX
  show zJ X 3 μ 0 [(0, .inr 31), (1, .inl a), (2, .inl b)] []
  obtain ⟨hq1, hq2, hq3, hq4, hq5, hq6, hq7⟩ := id hq
  obtain ⟨ho1, ho2, ho3, ho4, ho5, ho6, ho7⟩ := id ho
  have hN := vN_ok ho
  refine z_aload_n C dX6_areTwo_0 0 rfl ?_
  refine z_iload_n C dX6_areTwo_1 1 rfl ?_
  refine z_callVi C (c_X6_isPerson (zl X) μ v hq ho a (by omega)) yyX6_isPerson mlX6_124 (zRc_of (i := 31) C (by decide) rfl rfl) dX6_areTwo_2 rfl rfl (Nat.le_of_ble_eq_true rfl) (by decide) (fun r1 m1 hr1 hp1 => ?_)
  obtain ⟨rfl, hp1⟩ := hp1
  rcases hp1 with ⟨rfl, hp1⟩ | ⟨rfl, hp1⟩
  · refine z_if_eq C dX6_areTwo_5 (tgt := 29) (by decide) (by decide) (fun c2 => (by exfalso; omega)) (fun _ => ?_)
    refine z_aload_n C dX6_areTwo_8 0 rfl ?_
    refine z_iload_n C dX6_areTwo_9 2 rfl ?_
    refine z_callVi C (c_X6_isPerson (zl X) μ v hq ho b (by omega)) yyX6_isPerson mlX6_124 (zRc_of (i := 31) C (by decide) rfl rfl) dX6_areTwo_10 rfl rfl (Nat.le_of_ble_eq_true rfl) (by decide) (fun r3 m3 hr3 hp3 => ?_)
    obtain ⟨rfl, hp3⟩ := hp3
    rcases hp3 with ⟨rfl, hp3⟩ | ⟨rfl, hp3⟩
    · refine z_if_eq C dX6_areTwo_13 (tgt := 29) (by decide) (by decide) (fun c4 => (by exfalso; omega)) (fun _ => ?_)
      refine z_iload_n C dX6_areTwo_16 1 rfl ?_
      refine z_iconst C dX6_areTwo_17 ?_
      refine z_idiv C dX6_areTwo_18 (by omega) ?_
      refine z_iload_n C dX6_areTwo_19 2 rfl ?_
      refine z_iconst C dX6_areTwo_20 ?_
      refine z_idiv C dX6_areTwo_21 (by omega) ?_
      refine z_icmp_eq C dX6_areTwo_22 (tgt := 29) (by decide) (by omega) (by omega) (fun c5 => ?_) (fun c5 => ?_)
      · refine z_iconst C dX6_areTwo_29 ?_
        exact E dX6_areTwo_30 (by decide) (z_nb (Or.inl rfl)) ⟨rfl, Or.inr ⟨rfl, by omega⟩⟩
      · refine z_iconst C dX6_areTwo_25 ?_
        refine z_goto C dX6_areTwo_26 (tgt := 30) (by decide) ?_
        exact E dX6_areTwo_30 (by decide) (z_nb (Or.inr rfl)) ⟨rfl, Or.inl ⟨rfl, by omega⟩⟩
    · refine z_if_eq C dX6_areTwo_13 (tgt := 29) (by decide) (by decide) (fun _ => ?_) (fun c6 => (by exfalso; omega))
      refine z_iconst C dX6_areTwo_29 ?_
      exact E dX6_areTwo_30 (by decide) (z_nb (Or.inl rfl)) ⟨rfl, Or.inr ⟨rfl, by omega⟩⟩
  · refine z_if_eq C dX6_areTwo_5 (tgt := 29) (by decide) (by decide) (fun _ => ?_) (fun c7 => (by exfalso; omega))
    refine z_iconst C dX6_areTwo_29 ?_
    exact E dX6_areTwo_30 (by decide) (z_nb (Or.inl rfl)) ⟨rfl, Or.inr ⟨rfl, by omega⟩⟩
set_option maxHeartbeats 4000000 in
theorem c_X6_likingOf (l : Launch) (μ : zM) (v : zVw) (hq : zQ μ v) (ho : vOK v) (a b : Int) (hab : zU a b) : zMi l yX6_likingOf cX6_likingOf 3 (.int) 0 0 [.inr 31, .inl a, .inl b] μ (fun (r : Int) (m : zM) => μ = m ∧ r = vA v a b) := by
  refine zMi_of (own := RX6) (by decide +kernel) rfl (Nat.le_of_ble_eq_true rfl) ?_
  intro X hX C hrm E
  subst hX
  show zJ X 3 μ 0 [(0, .inr 31), (1, .inl a), (2, .inl b)] []
  obtain ⟨hq1, hq2, hq3, hq4, hq5, hq6, hq7⟩ := id hq
  obtain ⟨ho1, ho2, ho3, ho4, ho5, ho6, ho7⟩ := id ho
  have hN := vN_ok ho
  refine z_aload_n C dX6_likingOf_0 0 rfl ?_
  refine z_getR C ffX6_38 dX6_likingOf_1 (by decide) rfl rfl ?_
  refine z_iconst C dX6_likingOf_4 ?_
  refine z_iload_n C dX6_likingOf_5 1 rfl ?_
  refine z_imul C dX6_likingOf_6 ?_
  refine z_iload_n C dX6_likingOf_7 2 rfl ?_
  refine z_iconst C dX6_likingOf_8 ?_
  refine z_irem C dX6_likingOf_9 (by omega) ?_
  refine z_iadd C dX6_likingOf_10 ?_
  refine z_iald C dX6_likingOf_11 (by decide) rfl (by omega) (by decide) (fun hr1 => ?_)
  exact E dX6_likingOf_12 (by omega) rfl ⟨rfl, hq7 a b hab⟩
set_option maxHeartbeats 4000000 in
theorem c_X6_others (l : Launch) (μ : zM) (v : zVw) (hq : zQ μ v) (ho : vOK v) (p : Int) (hp : zR p) : zMi l yX6_others cX6_others 2 (.int) 0 0 [.inr 31, .inl p] μ (fun (r : Int) (m : zM) => μ = m ∧ r = vF v p) := by
  refine zMi_of (own := RX6) (by decide +kernel) rfl (Nat.le_of_ble_eq_true rfl) ?_
  intro X hX C hrm E
  subst hX
  show zJ X 2 μ 0 [(0, .inr 31), (1, .inl p)] []
  obtain ⟨hq1, hq2, hq3, hq4, hq5, hq6, hq7⟩ := id hq
  obtain ⟨ho1, ho2, ho3, ho4, ho5, ho6, ho7⟩ := id ho
  have hN := vN_ok ho
  refine z_iload_n C dX6_others_0 1 rfl ?_
  refine z_iconst C dX6_others_1 ?_
  refine z_icmp_ge C dX6_others_2 (tgt := 12) (by decide) (by omega) (by decide) (fun c1 => ?_) (fun c1 => ?_)
  · refine z_aload_n C dX6_others_12 0 rfl ?_
    refine z_getI C ffX6_7 dX6_others_13 (by decide) rfl rfl 0 rfl (fun hr2 => ?_)
    exact E dX6_others_16 (by omega) rfl ⟨rfl, (by unfold vF; split <;> omega)⟩
  · refine z_aload_n C dX6_others_5 0 rfl ?_
    refine z_getI C ffX6_13 dX6_others_6 (by decide) rfl rfl 1 rfl (fun hr3 => ?_)
    refine z_goto C dX6_others_9 (tgt := 16) (by decide) ?_
    exact E dX6_others_16 (by omega) rfl ⟨rfl, (by unfold vF; split <;> omega)⟩
set_option maxHeartbeats 4000000 in
theorem c_X6_otherOf (l : Launch) (μ : zM) (p n : Int) (hp : zR p) (hn : -1000 ≤ n ∧ n ≤ 1000) : zMi l yX6_otherOf cX6_otherOf 3 (.int) 0 0 [.inr 31, .inl p, .inl n] μ (fun (r : Int) (m : zM) => μ = m ∧ r = sOth p n) := by
  refine zMi_of (own := RX6) (by decide +kernel) rfl (Nat.le_of_ble_eq_true rfl) ?_
  intro X hX C hrm E
  subst hX
  show zJ X 3 μ 0 [(0, .inr 31), (1, .inl p), (2, .inl n)] []
  refine z_iload_n C dX6_otherOf_0 1 rfl ?_
  refine z_iconst C dX6_otherOf_1 ?_
  refine z_icmp_ge C dX6_otherOf_2 (tgt := 11) (by decide) (by omega) (by decide) (fun c1 => ?_) (fun c1 => ?_)
  · refine z_iload_n C dX6_otherOf_11 2 rfl ?_
    exact E dX6_otherOf_12 (by omega) rfl ⟨rfl, (by unfold sOth; split <;> omega)⟩
  · refine z_iconst C dX6_otherOf_5 ?_
    refine z_iload_n C dX6_otherOf_6 2 rfl ?_
    refine z_iadd C dX6_otherOf_7 ?_
    refine z_goto C dX6_otherOf_8 (tgt := 12) (by decide) ?_
    exact E dX6_otherOf_12 (by omega) rfl ⟨rfl, (by unfold sOth; split <;> omega)⟩
set_option maxHeartbeats 4000000 in
theorem c_X6_roundsNow (l : Launch) (μ : zM) (v : zVw) (hq : zQ μ v) (ho : vOK v) : zMi l yX6_roundsNow cX6_roundsNow 1 (.int) 0 0 [.inr 31] μ (fun (r : Int) (m : zM) => μ = m ∧ r = vN v) := by
  refine zMi_of (own := RX6) (by decide +kernel) rfl (Nat.le_of_ble_eq_true rfl) ?_
  intro X hX C hrm E
  subst hX
  show zJ X 1 μ 0 [(0, .inr 31)] []
  obtain ⟨hq1, hq2, hq3, hq4, hq5, hq6, hq7⟩ := id hq
  obtain ⟨ho1, ho2, ho3, ho4, ho5, ho6, ho7⟩ := id ho
  have hN := vN_ok ho
  refine z_aload_n C dX6_roundsNow_0 0 rfl ?_
  refine z_getI C ffX6_7 dX6_roundsNow_1 (by decide) rfl rfl 0 rfl (fun hr1 => ?_)
  refine z_aload_n C dX6_roundsNow_4 0 rfl ?_
  refine z_getI C ffX6_13 dX6_roundsNow_5 (by decide) rfl rfl 1 rfl (fun hr2 => ?_)
  refine z_icmp_le C dX6_roundsNow_8 (tgt := 18) (by decide) (by omega) (by omega) (fun c3 => ?_) (fun c3 => ?_)
  · refine z_aload_n C dX6_roundsNow_18 0 rfl ?_
    refine z_getI C ffX6_13 dX6_roundsNow_19 (by decide) rfl rfl 1 rfl (fun hr4 => ?_)
    exact E dX6_roundsNow_22 (by omega) rfl ⟨rfl, (by unfold vN; split <;> omega)⟩
  · refine z_aload_n C dX6_roundsNow_11 0 rfl ?_
    refine z_getI C ffX6_7 dX6_roundsNow_12 (by decide) rfl rfl 0 rfl (fun hr5 => ?_)
    refine z_goto C dX6_roundsNow_15 (tgt := 22) (by decide) ?_
    exact E dX6_roundsNow_22 (by omega) rfl ⟨rfl, (by unfold vN; split <;> omega)⟩
set_option maxHeartbeats 4000000 in
theorem c_X6_isRound (l : Launch) (μ : zM) (v : zVw) (hq : zQ μ v) (ho : vOK v) (k : Int) (hk : zR k) : zMi l yX6_isRound cX6_isRound 2 (.boolean) 1 23 [.inr 31, .inl k] μ (fun (r : Int) (m : zM) => μ = m ∧ ((r = 1 ∧ (0 ≤ k ∧ k < vN v)) ∨ (r = 0 ∧ ¬ (0 ≤ k ∧ k < vN v)))) := by
  refine zMi_of (own := RX6) (by decide +kernel) rfl (Nat.le_of_ble_eq_true rfl) ?_
  intro X hX C hrm E
  subst hX
  show zJ X 2 μ 0 [(0, .inr 31), (1, .inl k)] []
  obtain ⟨hq1, hq2, hq3, hq4, hq5, hq6, hq7⟩ := id hq
  obtain ⟨ho1, ho2, ho3, ho4, ho5, ho6, ho7⟩ := id ho
  have hN := vN_ok ho
  refine z_aload_n C dX6_isRound_0 0 rfl ?_
  refine z_iload_n C dX6_isRound_1 1 rfl ?_
  refine z_iconst C dX6_isRound_2 ?_
  refine z_aload_n C dX6_isRound_3 0 rfl ?_
  refine z_callVi C (c_X6_roundsNow (zl X) μ v hq ho) yyX6_roundsNow mlX6_187 (zRc_of (i := 31) C (by decide) rfl rfl) dX6_isRound_4 rfl rfl (Nat.le_of_ble_eq_true rfl) (by decide) (fun r1 m1 hr1 hp1 => ?_)
  obtain ⟨rfl, hp1⟩ := hp1
  refine z_iconst C dX6_isRound_7 ?_
  refine z_isub C dX6_isRound_8 ?_
  refine z_callVi C (c_X6_in (zl X) μ k 0 (r1 - 1) (by omega) (by omega) (by omega)) yyX6_in mlX6_117 (zRc_of (i := 31) C (by decide) rfl rfl) dX6_isRound_9 rfl rfl (Nat.le_of_ble_eq_true rfl) (by decide) (fun r2 m2 hr2 hp2 => ?_)
  obtain ⟨rfl, hp2⟩ := hp2
  exact E dX6_isRound_12 (by omega) (z_nb (by omega)) ⟨rfl, by omega⟩
set_option maxHeartbeats 4000000 in
theorem c_X6_metBy (l : Launch) (μ : zM) (v : zVw) (hq : zQ μ v) (ho : vOK v) (p k : Int) (hp : vTh v p) (hk : 0 ≤ k ∧ k < vN v) : zMi l yX6_metBy cX6_metBy 5 (.int) 1 20 [.inr 31, .inl p, .inl k] μ (fun (r : Int) (m : zM) => μ = m ∧ r = sPar v p k) := by
  refine zMi_of (own := RX6) (by decide +kernel) rfl (Nat.le_of_ble_eq_true rfl) ?_
  intro X hX C hrm E
  subst hX
  show zJ X 5 μ 0 [(0, .inr 31), (1, .inl p), (2, .inl k)] []
  obtain ⟨hq1, hq2, hq3, hq4, hq5, hq6, hq7⟩ := id hq
  obtain ⟨ho1, ho2, ho3, ho4, ho5, ho6, ho7⟩ := id ho
  have hN := vN_ok ho
  have hm := zmulb (k := k) (s := vS v) (by omega) (by omega)
  have hal : sAl v k = vH v + k * vS v := rfl
  refine z_aload_n C dX6_metBy_0 0 rfl ?_
  refine z_callVi C (c_X6_roundsNow (zl X) μ v hq ho) yyX6_roundsNow mlX6_187 (zRc_of (i := 31) C (by decide) rfl rfl) dX6_metBy_1 rfl rfl (Nat.le_of_ble_eq_true rfl) (by decide) (fun r1 m1 hr1 hp1 => ?_)
  obtain ⟨rfl, hp1⟩ := hp1
  rw [hp1]
  refine z_istore_n C dX6_metBy_4 (by decide) (L' := [(0, _), (1, _), (2, _), (3, _)]) rfl ?_
  refine z_iload_n C dX6_metBy_5 1 rfl ?_
  refine z_iconst C dX6_metBy_6 ?_
  refine z_icmp_ge C dX6_metBy_7 (tgt := 46) (by decide) (by omega) (by decide) (fun c2 => ?_) (fun c2 => ?_)
  · refine z_iconst C dX6_metBy_46 ?_
    refine z_istore C dX6_metBy_47 (by decide) (L' := [(0, _), (1, _), (2, _), (3, _), (4, _)]) rfl ?_
    have LP49 : ∀ (N49 : Nat) (l : Int), (0 ≤ l) → (l ≤ vL v) → (∀ i, 0 ≤ i → i < l → ¬ i = (p - 5 - (vH v + k * vS v)) % vN v) → (6 - l).toNat < N49 → zJ X 5 μ 49 [(0, .inr 31), (1, .inl p), (2, .inl k), (3, .inl (vN v)), (4, .inl l)] [] := by
      intro N49
      induction N49 with
      | zero => intro l h49_0 h49_1 h49_2 hN; exact absurd hN (Nat.not_lt_zero _)
      | succ N49 ih49 =>
        intro l h49_0 h49_1 h49_2 hN49
        refine z_iload C dX6_metBy_49 4 rfl ?_
        refine z_aload_n C dX6_metBy_51 0 rfl ?_
        refine z_getI C ffX6_7 dX6_metBy_52 (by decide) rfl rfl 0 rfl (fun hr3 => ?_)
        refine z_icmp_ge C dX6_metBy_55 (tgt := 89) (by decide) (by omega) (by omega) (fun c4 => ?_) (fun c4 => ?_)
        · refine z_bipush C dX6_metBy_89 (by decide) ?_
          exact E dX6_metBy_91 (by decide) rfl ⟨rfl, (by unfold sPar sMet; have hzb2 := zmodb (x := p - 5 - (vH v + k * vS v)) (n := vN v) (by omega); rw [if_pos (by omega), if_neg (by omega), hal, if_neg (fun z => h49_2 _ hzb2.1 (by omega) rfl)])⟩
        · refine z_iload C dX6_metBy_58 4 rfl ?_
          refine z_aload_n C dX6_metBy_60 0 rfl ?_
          refine z_getI C ffX6_19 dX6_metBy_61 (by decide) rfl rfl 3 rfl (fun hr5 => ?_)
          rw [hq4]
          refine z_iadd C dX6_metBy_64 ?_
          refine z_iload_n C dX6_metBy_65 2 rfl ?_
          refine z_aload_n C dX6_metBy_66 0 rfl ?_
          refine z_getI C ffX6_16 dX6_metBy_67 (by decide) rfl rfl 2 rfl (fun hr6 => ?_)
          rw [hq3]
          refine z_imul C dX6_metBy_70 ?_
          refine z_iadd C dX6_metBy_71 ?_
          refine z_iload_n C dX6_metBy_72 3 rfl ?_
          have hiv := zmod_inv (n := vN v) (l := l) (q := p - 5) (x := vH v + k * vS v) (by omega) (by omega) (by omega)
          rw [← Int.add_assoc] at hiv
          have hzb := zmodb (x := l + vH v + k * vS v) (n := vN v) (by omega)
          refine z_irem C dX6_metBy_73 (by omega) ?_
          refine z_iload_n C dX6_metBy_74 1 rfl ?_
          refine z_iconst C dX6_metBy_75 ?_
          refine z_isub C dX6_metBy_76 ?_
          refine z_icmp_ne C dX6_metBy_77 (tgt := 83) (by decide) (by omega) (by omega) (fun c7 => ?_) (fun c7 => ?_)
          · refine z_iinc C dX6_metBy_83 4 rfl (by decide) (L' := [(0, _), (1, _), (2, _), (3, _), (4, _)]) rfl ?_
            refine z_goto C dX6_metBy_86 (tgt := 49) (by decide) ?_
            exact ih49 _ (by omega) (by omega) (fun i i0 i1 => by by_cases e : i = l; (rw [e]; omega); exact h49_2 i i0 (by omega)) (by omega)
          · refine z_iload C dX6_metBy_80 4 rfl ?_
            exact E dX6_metBy_82 (by omega) rfl ⟨rfl, (by unfold sPar sMet; rw [if_pos (by omega), if_neg (by omega), hal, ← hiv.1 (by omega), if_pos (by omega)])⟩
    exact LP49 _ 0 (by omega) (by omega) (fun i i0 i1 => by omega) (Nat.lt_succ_self _)
  · refine z_iload_n C dX6_metBy_10 1 rfl ?_
    refine z_aload_n C dX6_metBy_11 0 rfl ?_
    refine z_getI C ffX6_19 dX6_metBy_12 (by decide) rfl rfl 3 rfl (fun hr8 => ?_)
    rw [hq4]
    refine z_iadd C dX6_metBy_15 ?_
    refine z_iload_n C dX6_metBy_16 2 rfl ?_
    refine z_aload_n C dX6_metBy_17 0 rfl ?_
    refine z_getI C ffX6_16 dX6_metBy_18 (by decide) rfl rfl 2 rfl (fun hr9 => ?_)
    rw [hq3]
    refine z_imul C dX6_metBy_21 ?_
    refine z_iadd C dX6_metBy_22 ?_
    refine z_iload_n C dX6_metBy_23 3 rfl ?_
    refine z_irem C dX6_metBy_24 (by omega) ?_
    have hzb := zmodb (x := p + vH v + k * vS v) (n := vN v) (by omega)
    have hsp : sPar v p k = if (p + vH v + k * vS v) % vN v < vR v then 5 + (p + vH v + k * vS v) % vN v else -9 := by unfold sPar sMet; rw [if_pos (by omega), if_pos (by omega), hal, ← Int.add_assoc]
    refine z_istore C dX6_metBy_25 (by decide) (L' := [(0, _), (1, _), (2, _), (3, _), (4, _)]) rfl ?_
    refine z_iload C dX6_metBy_27 4 rfl ?_
    refine z_aload_n C dX6_metBy_29 0 rfl ?_
    refine z_getI C ffX6_13 dX6_metBy_30 (by decide) rfl rfl 1 rfl (fun hr10 => ?_)
    refine z_icmp_ge C dX6_metBy_33 (tgt := 43) (by decide) (by omega) (by omega) (fun c11 => ?_) (fun c11 => ?_)
    · refine z_bipush C dX6_metBy_43 (by decide) ?_
      exact E dX6_metBy_45 (by decide) rfl ⟨rfl, (by rw [hsp]; split <;> omega)⟩
    · refine z_iconst C dX6_metBy_36 ?_
      refine z_iload C dX6_metBy_37 4 rfl ?_
      refine z_iadd C dX6_metBy_39 ?_
      refine z_goto C dX6_metBy_40 (tgt := 45) (by decide) ?_
      exact E dX6_metBy_45 (by omega) rfl ⟨rfl, (by rw [hsp]; split <;> omega)⟩
set_option maxHeartbeats 4000000 in
theorem c_X6_behindOf (l : Launch) (μ : zM) (v : zVw) (hq : zQ μ v) (ho : vOK v) (p k : Int) (hp : vTh v p) (hk : 0 ≤ k ∧ k < vN v) : zMi l yX6_behindOf cX6_behindOf 3 (.int) 2 44 [.inr 31, .inl p, .inl k] μ (fun (r : Int) (m : zM) => μ = m ∧ r = if k = 0 then -9 else sPar v p (k - 1)) := by
  refine zMi_of (own := RX6) (by decide +kernel) rfl (Nat.le_of_ble_eq_true rfl) ?_
  intro X hX C hrm E
  subst hX
  show zJ X 3 μ 0 [(0, .inr 31), (1, .inl p), (2, .inl k)] []
  obtain ⟨hq1, hq2, hq3, hq4, hq5, hq6, hq7⟩ := id hq
  obtain ⟨ho1, ho2, ho3, ho4, ho5, ho6, ho7⟩ := id ho
  have hN := vN_ok ho
  have hU := sPar_U ho (p := p) (k := k - 1)
  refine z_iload_n C dX6_behindOf_0 2 rfl ?_
  refine z_if_ne C dX6_behindOf_1 (tgt := 9) (by decide) (by omega) (fun c1 => ?_) (fun c1 => ?_)
  · refine z_aload_n C dX6_behindOf_9 0 rfl ?_
    refine z_iload_n C dX6_behindOf_10 1 rfl ?_
    refine z_iload_n C dX6_behindOf_11 2 rfl ?_
    refine z_iconst C dX6_behindOf_12 ?_
    refine z_isub C dX6_behindOf_13 ?_
    refine z_callVi C (c_X6_metBy (zl X) μ v hq ho p (k - 1) (by omega) (by omega)) yyX6_metBy mlX6_190 (zRc_of (i := 31) C (by decide) rfl rfl) dX6_behindOf_14 rfl rfl (Nat.le_of_ble_eq_true rfl) (by decide) (fun r2 m2 hr2 hp2 => ?_)
    obtain ⟨rfl, hp2⟩ := hp2
    exact E dX6_behindOf_17 (by omega) rfl ⟨rfl, (by rw [if_neg (by omega)]; omega)⟩
  · refine z_bipush C dX6_behindOf_4 (by decide) ?_
    refine z_goto C dX6_behindOf_6 (tgt := 17) (by decide) ?_
    exact E dX6_behindOf_17 (by decide) rfl ⟨rfl, (if_pos (by omega)).symm⟩
set_option maxHeartbeats 4000000 in
theorem c_X6_tired (l : Launch) (μ : zM) (v : zVw) (hq : zQ μ v) (ho : vOK v) (p o k : Int) (hpo : zU p o) (hk : 0 ≤ k ∧ k < 5) : zMi l yX6_tired cX6_tired 4 (.int) 1 22 [.inr 31, .inl p, .inl o, .inl k] μ (fun (r : Int) (m : zM) => μ = m ∧ r = vA v p o - k / 2) := by
  refine zMi_of (own := RX6) (by decide +kernel) rfl (Nat.le_of_ble_eq_true rfl) ?_
  intro X hX C hrm E
  subst hX
  show zJ X 4 μ 0 [(0, .inr 31), (1, .inl p), (2, .inl o), (3, .inl k)] []
  obtain ⟨hq1, hq2, hq3, hq4, hq5, hq6, hq7⟩ := id hq
  obtain ⟨ho1, ho2, ho3, ho4, ho5, ho6, ho7⟩ := id ho
  have hN := vN_ok ho
  have h7 := ho7 p o hpo
  refine z_aload_n C dX6_tired_0 0 rfl ?_
  refine z_iload_n C dX6_tired_1 1 rfl ?_
  refine z_iload_n C dX6_tired_2 2 rfl ?_
  refine z_callVi C (c_X6_likingOf (zl X) μ v hq ho p o (by omega)) yyX6_likingOf mlX6_193 (zRc_of (i := 31) C (by decide) rfl rfl) dX6_tired_3 rfl rfl (Nat.le_of_ble_eq_true rfl) (by decide) (fun r1 m1 hr1 hp1 => ?_)
  obtain ⟨rfl, hp1⟩ := hp1
  rw [hp1]
  refine z_iload_n C dX6_tired_6 3 rfl ?_
  refine z_iconst C dX6_tired_7 ?_
  refine z_idiv C dX6_tired_8 (by omega) ?_
  refine z_isub C dX6_tired_9 ?_
  exact E dX6_tired_10 (by omega) rfl ⟨rfl, rfl⟩
set_option maxHeartbeats 4000000 in
theorem c_X6_feels (l : Launch) (μ : zM) (v : zVw) (hq : zQ μ v) (ho : vOK v) (p o k : Int) (hp : vTh v p) (hpo : zU p o) (hk : 0 ≤ k ∧ k < vN v) : zMi l yX6_feels cX6_feels 6 (.int) 3 66 [.inr 31, .inl p, .inl o, .inl k] μ (fun (r : Int) (m : zM) => μ = m ∧ r = sFeel v p o k) := by
  refine zMi_of (own := RX6) (by decide +kernel) rfl (Nat.le_of_ble_eq_true rfl) ?_
  intro X hX C hrm E
  subst hX
  show zJ X 6 μ 0 [(0, .inr 31), (1, .inl p), (2, .inl o), (3, .inl k)] []
  obtain ⟨hq1, hq2, hq3, hq4, hq5, hq6, hq7⟩ := id hq
  obtain ⟨ho1, ho2, ho3, ho4, ho5, ho6, ho7⟩ := id ho
  have hN := vN_ok ho
  have h7 := ho7 p o hpo
  have h7b := ho7 o p (by omega)
  have hU := sPar_U ho (p := p) (k := k - 1)
  have h6 := ho6 p (by omega) (by omega)
  refine z_aload_n C dX6_feels_0 0 rfl ?_
  refine z_iload_n C dX6_feels_1 1 rfl ?_
  refine z_iload_n C dX6_feels_2 2 rfl ?_
  refine z_callVi C (c_X6_likingOf (zl X) μ v hq ho p o (by omega)) yyX6_likingOf mlX6_193 (zRc_of (i := 31) C (by decide) rfl rfl) dX6_feels_3 rfl rfl (Nat.le_of_ble_eq_true rfl) (by decide) (fun r1 m1 hr1 hp1 => ?_)
  obtain ⟨rfl, hp1⟩ := hp1
  rw [hp1]
  refine z_istore C dX6_feels_6 (by decide) (L' := [(0, _), (1, _), (2, _), (3, _), (4, _)]) rfl ?_
  refine z_aload_n C dX6_feels_8 0 rfl ?_
  refine z_getR C ffX6_31 dX6_feels_9 (by decide) rfl rfl ?_
  refine z_iload_n C dX6_feels_12 1 rfl ?_
  refine z_iald C dX6_feels_13 (by decide) rfl (by omega) (by decide) (fun hr2 => ?_)
  rw [(hq6 p (by omega) (by omega)).1]
  by_cases e3_0 : (vK v p) = 1
  · refine z_tabIn C dX6_feels_14 (by omega) 0 (by omega) (by omega) (off := 34) (tgt := 48) rfl (by decide) ?_
    refine z_iload_n C dX6_feels_48 3 rfl ?_
    refine z_if_ne C dX6_feels_49 (tgt := 59) (by decide) (by omega) (fun c4 => ?_) (fun c4 => ?_)
    · refine z_iload C dX6_feels_59 4 rfl ?_
      exact E dX6_feels_61 (by omega) rfl ⟨rfl, (by unfold sFeel; repeat (first | rw [if_pos (by omega)] | rw [if_neg (by omega)]); (try omega))⟩
    · refine z_iload C dX6_feels_52 4 rfl ?_
      refine z_iconst C dX6_feels_54 ?_
      refine z_isub C dX6_feels_55 ?_
      refine z_goto C dX6_feels_56 (tgt := 61) (by decide) ?_
      exact E dX6_feels_61 (by omega) rfl ⟨rfl, (by unfold sFeel; repeat (first | rw [if_pos (by omega)] | rw [if_neg (by omega)]); (try omega))⟩
  by_cases e3_1 : (vK v p) = 2
  · refine z_tabIn C dX6_feels_14 (by omega) 1 (by omega) (by omega) (off := 48) (tgt := 62) rfl (by decide) ?_
    refine z_aload_n C dX6_feels_62 0 rfl ?_
    refine z_iload_n C dX6_feels_63 1 rfl ?_
    refine z_iload_n C dX6_feels_64 2 rfl ?_
    refine z_iload_n C dX6_feels_65 3 rfl ?_
    refine z_callVi C (c_X6_tired (zl X) μ v hq ho p o k (by omega) (by omega)) yyX6_tired mlX6_196 (zRc_of (i := 31) C (by decide) rfl rfl) dX6_feels_66 rfl rfl (Nat.le_of_ble_eq_true rfl) (by decide) (fun r5 m5 hr5 hp5 => ?_)
    obtain ⟨rfl, hp5⟩ := hp5
    rw [hp5]
    exact E dX6_feels_69 (by omega) rfl ⟨rfl, (by unfold sFeel; repeat (first | rw [if_pos (by omega)] | rw [if_neg (by omega)]); (try omega))⟩
  by_cases e3_2 : (vK v p) = 3
  · refine z_tabIn C dX6_feels_14 (by omega) 2 (by omega) (by omega) (off := 56) (tgt := 70) rfl (by decide) ?_
    refine z_aload_n C dX6_feels_70 0 rfl ?_
    refine z_iload_n C dX6_feels_71 1 rfl ?_
    refine z_iload_n C dX6_feels_72 3 rfl ?_
    refine z_callVi C (c_X6_behindOf (zl X) μ v hq ho p k (by omega) (by omega)) yyX6_behindOf mlX6_200 (zRc_of (i := 31) C (by decide) rfl rfl) dX6_feels_73 rfl rfl (Nat.le_of_ble_eq_true rfl) (by decide) (fun r6 m6 hr6 hp6 => ?_)
    obtain ⟨rfl, hp6⟩ := hp6
    have hbo := hp6
    have hbc : (k = 0 ∧ r6 = -9) ∨ (0 < k ∧ r6 = sPar v p (k - 1)) := by rw [hbo]; split <;> omega
    have hbU : r6 = -9 ∨ zU p r6 := by omega
    refine z_istore C dX6_feels_76 (by decide) (L' := [(0, _), (1, _), (2, _), (3, _), (4, _), (5, _)]) rfl ?_
    refine z_iload C dX6_feels_78 5 rfl ?_
    refine z_if_lt C dX6_feels_80 (tgt := 102) (by decide) (by omega) (fun c7 => ?_) (fun c7 => ?_)
    · refine z_iload C dX6_feels_102 4 rfl ?_
      exact E dX6_feels_104 (by omega) rfl ⟨rfl, (by unfold sFeel; repeat (first | rw [if_pos (by omega)] | rw [if_neg (by omega)]); (try omega))⟩
    · refine z_aload_n C dX6_feels_83 0 rfl ?_
      refine z_iload_n C dX6_feels_84 1 rfl ?_
      refine z_iload C dX6_feels_85 5 rfl ?_
      refine z_callVi C (c_X6_likingOf (zl X) μ v hq ho p r6 (by omega)) yyX6_likingOf mlX6_193 (zRc_of (i := 31) C (by decide) rfl rfl) dX6_feels_87 rfl rfl (Nat.le_of_ble_eq_true rfl) (by decide) (fun r8 m8 hr8 hp8 => ?_)
      obtain ⟨rfl, hp8⟩ := hp8
      have hwl := hp8
      have hwp : r6 = sPar v p (k - 1) := by omega
      rw [hwp] at hwl
      have h7c := ho7 p (sPar v p (k - 1)) (by omega)
      refine z_iload C dX6_feels_90 4 rfl ?_
      refine z_icmp_le C dX6_feels_92 (tgt := 102) (by decide) (by omega) (by omega) (fun c9 => ?_) (fun c9 => ?_)
      · refine z_iload C dX6_feels_102 4 rfl ?_
        exact E dX6_feels_104 (by omega) rfl ⟨rfl, (by unfold sFeel; repeat (first | rw [if_pos (by omega)] | rw [if_neg (by omega)]); (try omega))⟩
      · refine z_iload C dX6_feels_95 4 rfl ?_
        refine z_iconst C dX6_feels_97 ?_
        refine z_isub C dX6_feels_98 ?_
        refine z_goto C dX6_feels_99 (tgt := 104) (by decide) ?_
        exact E dX6_feels_104 (by omega) rfl ⟨rfl, (by unfold sFeel; repeat (first | rw [if_pos (by omega)] | rw [if_neg (by omega)]); (try omega))⟩
  by_cases e3_3 : (vK v p) = 4
  · refine z_tabIn C dX6_feels_14 (by omega) 3 (by omega) (by omega) (off := 91) (tgt := 105) rfl (by decide) ?_
    refine z_aload_n C dX6_feels_105 0 rfl ?_
    refine z_iload_n C dX6_feels_106 2 rfl ?_
    refine z_iload_n C dX6_feels_107 1 rfl ?_
    refine z_callVi C (c_X6_likingOf (zl X) μ v hq ho o p (by omega)) yyX6_likingOf mlX6_193 (zRc_of (i := 31) C (by decide) rfl rfl) dX6_feels_108 rfl rfl (Nat.le_of_ble_eq_true rfl) (by decide) (fun r10 m10 hr10 hp10 => ?_)
    obtain ⟨rfl, hp10⟩ := hp10
    refine z_iconst C dX6_feels_111 ?_
    refine z_icmp_le C dX6_feels_112 (tgt := 122) (by decide) (by omega) (by decide) (fun c11 => ?_) (fun c11 => ?_)
    · refine z_iload C dX6_feels_122 4 rfl ?_
      refine z_iconst C dX6_feels_124 ?_
      refine z_isub C dX6_feels_125 ?_
      exact E dX6_feels_126 (by omega) rfl ⟨rfl, (by unfold sFeel; repeat (first | rw [if_pos (by omega)] | rw [if_neg (by omega)]); (try omega))⟩
    · refine z_iload C dX6_feels_115 4 rfl ?_
      refine z_iconst C dX6_feels_117 ?_
      refine z_iadd C dX6_feels_118 ?_
      refine z_goto C dX6_feels_119 (tgt := 126) (by decide) ?_
      exact E dX6_feels_126 (by omega) rfl ⟨rfl, (by unfold sFeel; repeat (first | rw [if_pos (by omega)] | rw [if_neg (by omega)]); (try omega))⟩
  by_cases e3_4 : (vK v p) = 5
  · refine z_tabIn C dX6_feels_14 (by omega) 4 (by omega) (by omega) (off := 113) (tgt := 127) rfl (by decide) ?_
    refine z_iload_n C dX6_feels_127 3 rfl ?_
    refine z_if_le C dX6_feels_128 (tgt := 152) (by decide) (by omega) (fun c12 => ?_) (fun c12 => ?_)
    · refine z_aload_n C dX6_feels_152 0 rfl ?_
      refine z_iload_n C dX6_feels_153 1 rfl ?_
      refine z_iload_n C dX6_feels_154 2 rfl ?_
      refine z_iload_n C dX6_feels_155 3 rfl ?_
      refine z_callVi C (c_X6_tired (zl X) μ v hq ho p o k (by omega) (by omega)) yyX6_tired mlX6_196 (zRc_of (i := 31) C (by decide) rfl rfl) dX6_feels_156 rfl rfl (Nat.le_of_ble_eq_true rfl) (by decide) (fun r13 m13 hr13 hp13 => ?_)
      obtain ⟨rfl, hp13⟩ := hp13
      rw [hp13]
      exact E dX6_feels_159 (by omega) rfl ⟨rfl, (by unfold sFeel; repeat (first | rw [if_pos (by omega)] | rw [if_neg (by omega)]); (try omega))⟩
    · refine z_aload_n C dX6_feels_131 0 rfl ?_
      refine z_iload_n C dX6_feels_132 1 rfl ?_
      refine z_iload_n C dX6_feels_133 3 rfl ?_
      refine z_callVi C (c_X6_behindOf (zl X) μ v hq ho p k (by omega) (by omega)) yyX6_behindOf mlX6_200 (zRc_of (i := 31) C (by decide) rfl rfl) dX6_feels_134 rfl rfl (Nat.le_of_ble_eq_true rfl) (by decide) (fun r14 m14 hr14 hp14 => ?_)
      obtain ⟨rfl, hp14⟩ := hp14
      have hbo := hp14
      have hbc : (k = 0 ∧ r14 = -9) ∨ (0 < k ∧ r14 = sPar v p (k - 1)) := by rw [hbo]; split <;> omega
      have hbU : r14 = -9 ∨ zU p r14 := by omega
      refine z_if_ge C dX6_feels_137 (tgt := 152) (by decide) (by omega) (fun c15 => ?_) (fun c15 => ?_)
      · refine z_aload_n C dX6_feels_152 0 rfl ?_
        refine z_iload_n C dX6_feels_153 1 rfl ?_
        refine z_iload_n C dX6_feels_154 2 rfl ?_
        refine z_iload_n C dX6_feels_155 3 rfl ?_
        refine z_callVi C (c_X6_tired (zl X) μ v hq ho p o k (by omega) (by omega)) yyX6_tired mlX6_196 (zRc_of (i := 31) C (by decide) rfl rfl) dX6_feels_156 rfl rfl (Nat.le_of_ble_eq_true rfl) (by decide) (fun r16 m16 hr16 hp16 => ?_)
        obtain ⟨rfl, hp16⟩ := hp16
        rw [hp16]
        exact E dX6_feels_159 (by omega) rfl ⟨rfl, (by unfold sFeel; repeat (first | rw [if_pos (by omega)] | rw [if_neg (by omega)]); (try omega))⟩
      · refine z_aload_n C dX6_feels_140 0 rfl ?_
        refine z_iload_n C dX6_feels_141 1 rfl ?_
        refine z_iload_n C dX6_feels_142 2 rfl ?_
        refine z_iload_n C dX6_feels_143 3 rfl ?_
        refine z_callVi C (c_X6_tired (zl X) μ v hq ho p o k (by omega) (by omega)) yyX6_tired mlX6_196 (zRc_of (i := 31) C (by decide) rfl rfl) dX6_feels_144 rfl rfl (Nat.le_of_ble_eq_true rfl) (by decide) (fun r17 m17 hr17 hp17 => ?_)
        obtain ⟨rfl, hp17⟩ := hp17
        rw [hp17]
        refine z_iconst C dX6_feels_147 ?_
        refine z_isub C dX6_feels_148 ?_
        refine z_goto C dX6_feels_149 (tgt := 159) (by decide) ?_
        exact E dX6_feels_159 (by omega) rfl ⟨rfl, (by unfold sFeel; repeat (first | rw [if_pos (by omega)] | rw [if_neg (by omega)]); (try omega))⟩
  refine z_tabOut C dX6_feels_14 (by omega) (by omega) (tgt := 160) (by decide) ?_
  refine z_iload C dX6_feels_160 4 rfl ?_
  exact E dX6_feels_162 (by omega) rfl ⟨rfl, (by unfold sFeel; repeat (first | rw [if_pos (by omega)] | rw [if_neg (by omega)]); (try omega))⟩
set_option maxHeartbeats 4000000 in
theorem c_X6_saysYes (l : Launch) (μ : zM) (v : zVw) (hq : zQ μ v) (ho : vOK v) (p o : Int) (hp : vTh v p) (hpo : zU p o) : zMi l yX6_saysYes cX6_saysYes 4 (.boolean) 4 91 [.inr 31, .inl p, .inl o] μ (fun (r : Int) (m : zM) => μ = m ∧ ((r = 1 ∧ (¬ zand (sSl v p) (zbit o) = 0)) ∨ (r = 0 ∧ ¬ (¬ zand (sSl v p) (zbit o) = 0)))) := by
  refine zMi_of (own := RX6) (by decide +kernel) rfl (Nat.le_of_ble_eq_true rfl) ?_
  intro X hX C hrm E
  subst hX
  show zJ X 4 μ 0 [(0, .inr 31), (1, .inl p), (2, .inl o)] []
  obtain ⟨hq1, hq2, hq3, hq4, hq5, hq6, hq7⟩ := id hq
  obtain ⟨ho1, ho2, ho3, ho4, ho5, ho6, ho7⟩ := id ho
  have hN := vN_ok ho
  have h6 := ho6 p (by omega) (by omega)
  refine z_iconst C dX6_saysYes_0 ?_
  refine z_istore_n C dX6_saysYes_1 (by decide) (L' := [(0, _), (1, _), (2, _), (3, _)]) rfl ?_
  have LP2 : ∀ (N2 : Nat) (k : Int), (0 ≤ k) → (k ≤ vN v) → (∀ i, 0 ≤ i → i < k → ¬ sYes v p o i) → (6 - k).toNat < N2 → zJ X 4 μ 2 [(0, .inr 31), (1, .inl p), (2, .inl o), (3, .inl k)] [] := by
    intro N2
    induction N2 with
    | zero => intro k h2_0 h2_1 h2_2 hN; exact absurd hN (Nat.not_lt_zero _)
    | succ N2 ih2 =>
      intro k h2_0 h2_1 h2_2 hN2
      have hU := sPar_U ho (p := p) (k := k)
      refine z_iload_n C dX6_saysYes_2 3 rfl ?_
      refine z_aload_n C dX6_saysYes_3 0 rfl ?_
      refine z_callVi C (c_X6_roundsNow (zl X) μ v hq ho) yyX6_roundsNow mlX6_187 (zRc_of (i := 31) C (by decide) rfl rfl) dX6_saysYes_4 rfl rfl (Nat.le_of_ble_eq_true rfl) (by decide) (fun r1 m1 hr1 hp1 => ?_)
      obtain ⟨rfl, hp1⟩ := hp1
      rw [hp1]
      refine z_icmp_ge C dX6_saysYes_7 (tgt := 44) (by decide) (by omega) (by omega) (fun c2 => ?_) (fun c2 => ?_)
      · refine z_iconst C dX6_saysYes_44 ?_
        exact E dX6_saysYes_45 (by decide) (z_nb (Or.inl rfl)) ⟨rfl, Or.inr ⟨rfl, fun z => by obtain ⟨i, i0, i1, i2⟩ := (sSl_has ho hpo).1 z; exact h2_2 i i0 (by omega) i2⟩⟩
      · refine z_aload_n C dX6_saysYes_10 0 rfl ?_
        refine z_iload_n C dX6_saysYes_11 1 rfl ?_
        refine z_iload_n C dX6_saysYes_12 3 rfl ?_
        refine z_callVi C (c_X6_metBy (zl X) μ v hq ho p k (by omega) (by omega)) yyX6_metBy mlX6_190 (zRc_of (i := 31) C (by decide) rfl rfl) dX6_saysYes_13 rfl rfl (Nat.le_of_ble_eq_true rfl) (by decide) (fun r3 m3 hr3 hp3 => ?_)
        obtain ⟨rfl, hp3⟩ := hp3
        rw [hp3]
        refine z_iload_n C dX6_saysYes_16 2 rfl ?_
        refine z_icmp_ne C dX6_saysYes_17 (tgt := 38) (by decide) (by omega) (by omega) (fun c4 => ?_) (fun c4 => ?_)
        · refine z_iinc C dX6_saysYes_38 3 rfl (by decide) (L' := [(0, _), (1, _), (2, _), (3, _)]) rfl ?_
          refine z_goto C dX6_saysYes_41 (tgt := 2) (by decide) ?_
          exact ih2 _ (by omega) (by omega) (fun i i0 i1 => by by_cases e : i = k; (rw [e]; exact fun z => by omega); exact h2_2 i i0 (by omega)) (by omega)
        · refine z_aload_n C dX6_saysYes_20 0 rfl ?_
          refine z_iload_n C dX6_saysYes_21 1 rfl ?_
          refine z_iload_n C dX6_saysYes_22 2 rfl ?_
          refine z_iload_n C dX6_saysYes_23 3 rfl ?_
          refine z_callVi C (c_X6_feels (zl X) μ v hq ho p o k (by omega) (by omega) (by omega)) yyX6_feels mlX6_203 (zRc_of (i := 31) C (by decide) rfl rfl) dX6_saysYes_24 rfl rfl (Nat.le_of_ble_eq_true rfl) (by decide) (fun r5 m5 hr5 hp5 => ?_)
          obtain ⟨rfl, hp5⟩ := hp5
          rw [hp5]
          have hfb := sFeel_b ho (p := p) (o := o) (k := k) (by omega) hpo
          refine z_aload_n C dX6_saysYes_27 0 rfl ?_
          refine z_getR C ffX6_35 dX6_saysYes_28 (by decide) rfl rfl ?_
          refine z_iload_n C dX6_saysYes_31 1 rfl ?_
          refine z_iald C dX6_saysYes_32 (by decide) rfl (by omega) (by decide) (fun hr6 => ?_)
          rw [(hq6 p (by omega) (by omega)).2]
          refine z_icmp_lt C dX6_saysYes_33 (tgt := 38) (by decide) (by omega) (by omega) (fun c7 => ?_) (fun c7 => ?_)
          · refine z_iinc C dX6_saysYes_38 3 rfl (by decide) (L' := [(0, _), (1, _), (2, _), (3, _)]) rfl ?_
            refine z_goto C dX6_saysYes_41 (tgt := 2) (by decide) ?_
            exact ih2 _ (by omega) (by omega) (fun i i0 i1 => by by_cases e : i = k; (rw [e]; exact fun z => by omega); exact h2_2 i i0 (by omega)) (by omega)
          · refine z_iconst C dX6_saysYes_36 ?_
            exact E dX6_saysYes_37 (by decide) (z_nb (Or.inr rfl)) ⟨rfl, Or.inl ⟨rfl, (sSl_has ho hpo).2 ⟨k, h2_0, by omega, by omega, by omega⟩⟩⟩
  exact LP2 _ 0 (by omega) (by omega) (fun i i0 i1 => by omega) (Nat.lt_succ_self _)
set_option maxHeartbeats 4000000 in
theorem c_X6_yesesOf (l : Launch) (μ : zM) (v : zVw) (hq : zQ μ v) (ho : vOK v) (p : Int) (hp : vTh v p) : zMi l yX6_yesesOf cX6_yesesOf 4 (.int) 5 114 [.inr 31, .inl p] μ (fun (r : Int) (m : zM) => μ = m ∧ r = sSl v p) := by
  refine zMi_of (own := RX6) (by decide +kernel) rfl (Nat.le_of_ble_eq_true rfl) ?_
  intro X hX C hrm E
  subst hX
  show zJ X 4 μ 0 [(0, .inr 31), (1, .inl p)] []
  obtain ⟨hq1, hq2, hq3, hq4, hq5, hq6, hq7⟩ := id hq
  obtain ⟨ho1, ho2, ho3, ho4, ho5, ho6, ho7⟩ := id ho
  have hN := vN_ok ho
  have hF := vF_b ho p
  refine z_iconst C dX6_yesesOf_0 ?_
  refine z_istore_n C dX6_yesesOf_1 (by decide) (L' := [(0, _), (1, _), (2, _)]) rfl ?_
  refine z_iconst C dX6_yesesOf_2 ?_
  refine z_istore_n C dX6_yesesOf_3 (by decide) (L' := [(0, _), (1, _), (2, _), (3, _)]) rfl ?_
  have LP4 : ∀ (N4 : Nat) (z : Int) (n : Int), (0 ≤ n) → (n ≤ vF v p) → (z = zBld (fun j => decide (¬ zand (sSl v p) (zbit j) = 0)) n.toNat) → (6 - n).toNat < N4 → zJ X 4 μ 4 [(0, .inr 31), (1, .inl p), (2, .inl z), (3, .inl n)] [] := by
    intro N4
    induction N4 with
    | zero => intro z n h4_0 h4_1 h4_2 hN; exact absurd hN (Nat.not_lt_zero _)
    | succ N4 ih4 =>
      intro z n h4_0 h4_1 h4_2 hN4
      have hzb := zBld_b (fun j => decide (¬ zand (sSl v p) (zbit j) = 0)) n.toNat (by omega)
      refine z_iload_n C dX6_yesesOf_4 3 rfl ?_
      refine z_aload_n C dX6_yesesOf_5 0 rfl ?_
      refine z_iload_n C dX6_yesesOf_6 1 rfl ?_
      refine z_callVi C (c_X6_others (zl X) μ v hq ho p (by omega)) yyX6_others mlX6_206 (zRc_of (i := 31) C (by decide) rfl rfl) dX6_yesesOf_7 rfl rfl (Nat.le_of_ble_eq_true rfl) (by decide) (fun r1 m1 hr1 hp1 => ?_)
      obtain ⟨rfl, hp1⟩ := hp1
      rw [hp1]
      refine z_icmp_ge C dX6_yesesOf_10 (tgt := 43) (by decide) (by omega) (by omega) (fun c2 => ?_) (fun c2 => ?_)
      · refine z_iload_n C dX6_yesesOf_43 2 rfl ?_
        exact E dX6_yesesOf_44 (by omega) rfl ⟨rfl, (by rw [sSl_bld ho (by omega), h4_2, show n = vF v p by omega])⟩
      · refine z_iload_n C dX6_yesesOf_13 2 rfl ?_
        refine z_aload_n C dX6_yesesOf_14 0 rfl ?_
        refine z_iload_n C dX6_yesesOf_15 1 rfl ?_
        refine z_aload_n C dX6_yesesOf_16 0 rfl ?_
        refine z_iload_n C dX6_yesesOf_17 1 rfl ?_
        refine z_iload_n C dX6_yesesOf_18 3 rfl ?_
        have hoo : sOth p n = (if p < 5 then 5 + n else n) := rfl
        have hth : vTh v (sOth p n) := (vF_th (by omega) (by omega)).2 (by omega)
        have hzu : zU p (sOth p n) := by rw [hoo]; split <;> omega
        have hzr : zR (sOth p n) := by omega
        refine z_callVi C (c_X6_otherOf (zl X) μ p n (by omega) (by omega)) yyX6_otherOf mlX6_167 (zRc_of (i := 31) C (by decide) rfl rfl) dX6_yesesOf_19 rfl rfl (Nat.le_of_ble_eq_true rfl) (by decide) (fun r3 m3 hr3 hp3 => ?_)
        obtain ⟨rfl, hp3⟩ := hp3
        rw [hp3]
        refine z_callVi C (c_X6_saysYes (zl X) μ v hq ho p (sOth p n) (by omega) (by omega)) yyX6_saysYes mlX6_209 (zRc_of (i := 31) C (by decide) rfl rfl) dX6_yesesOf_22 rfl rfl (Nat.le_of_ble_eq_true rfl) (by decide) (fun r4 m4 hr4 hp4 => ?_)
        obtain ⟨rfl, hp4⟩ := hp4
        rcases hp4 with ⟨rfl, hp4⟩ | ⟨rfl, hp4⟩
        · have hgy : (¬ zand (sSl v p) (zbit n) = 0) := by rw [← zbit_o p n]; exact hp4
          refine z_if_eq C dX6_yesesOf_25 (tgt := 34) (by decide) (by decide) (fun c5 => (by exfalso; omega)) (fun _ => ?_)
          refine z_iconst C dX6_yesesOf_28 ?_
          refine z_iload_n C dX6_yesesOf_29 3 rfl ?_
          refine z_ishl C dX6_yesesOf_30 ?_
          refine z_goto C dX6_yesesOf_31 (tgt := 35) (by decide) ?_
          refine z_ior C dX6_yesesOf_35 ?_
          have hzs := zshl_bit (j := n) (by omega)
          refine z_istore_n C dX6_yesesOf_36 (by decide) (L' := [(0, _), (1, _), (2, _), (3, _)]) rfl ?_
          refine z_iinc C dX6_yesesOf_37 3 rfl (by decide) (L' := [(0, _), (1, _), (2, _), (3, _)]) rfl ?_
          refine z_goto C dX6_yesesOf_40 (tgt := 4) (by decide) ?_
          exact ih4 _ _ (by omega) (by omega) (by rw [zBld_s _ (by omega), ← h4_2, if_pos (decide_eq_true hgy)]) (by omega)
        · have hgy : ¬ (¬ zand (sSl v p) (zbit n) = 0) := by rw [← zbit_o p n]; exact hp4
          refine z_if_eq C dX6_yesesOf_25 (tgt := 34) (by decide) (by decide) (fun _ => ?_) (fun c6 => (by exfalso; omega))
          refine z_iconst C dX6_yesesOf_34 ?_
          refine z_ior C dX6_yesesOf_35 ?_
          have hzs := zshl_bit (j := n) (by omega)
          refine z_istore_n C dX6_yesesOf_36 (by decide) (L' := [(0, _), (1, _), (2, _), (3, _)]) rfl ?_
          refine z_iinc C dX6_yesesOf_37 3 rfl (by decide) (L' := [(0, _), (1, _), (2, _), (3, _)]) rfl ?_
          refine z_goto C dX6_yesesOf_40 (tgt := 4) (by decide) ?_
          exact ih4 _ _ (by omega) (by omega) (by rw [zBld_s _ (by omega), ← h4_2, if_neg (by rw [decide_eq_false hgy]; intro q; cases q)]) (by omega)
  exact LP4 _ 0 0 (by omega) (by omega) rfl (Nat.lt_succ_self _)
set_option maxHeartbeats 4000000 in
theorem c_X6_yesesTo (l : Launch) (μ : zM) (v : zVw) (hq : zQ μ v) (ho : vOK v) (p : Int) (hp : vTh v p) : zMi l yX6_yesesTo cX6_yesesTo 4 (.int) 5 114 [.inr 31, .inl p] μ (fun (r : Int) (m : zM) => μ = m ∧ r = sToN v p 5) := by
  refine zMi_of (own := RX6) (by decide +kernel) rfl (Nat.le_of_ble_eq_true rfl) ?_
  intro X hX C hrm E
  subst hX
  show zJ X 4 μ 0 [(0, .inr 31), (1, .inl p)] []
  obtain ⟨hq1, hq2, hq3, hq4, hq5, hq6, hq7⟩ := id hq
  obtain ⟨ho1, ho2, ho3, ho4, ho5, ho6, ho7⟩ := id ho
  have hN := vN_ok ho
  have hF := vF_b ho p
  refine z_iconst C dX6_yesesTo_0 ?_
  refine z_istore_n C dX6_yesesTo_1 (by decide) (L' := [(0, _), (1, _), (2, _)]) rfl ?_
  refine z_iconst C dX6_yesesTo_2 ?_
  refine z_istore_n C dX6_yesesTo_3 (by decide) (L' := [(0, _), (1, _), (2, _), (3, _)]) rfl ?_
  have LP4 : ∀ (N4 : Nat) (z : Int) (n : Int), (0 ≤ n) → (n ≤ vF v p) → (z = zBld (fun j => decide (¬ zand (sSl v (sOth p j)) (zbit p) = 0)) n.toNat) → (6 - n).toNat < N4 → zJ X 4 μ 4 [(0, .inr 31), (1, .inl p), (2, .inl z), (3, .inl n)] [] := by
    intro N4
    induction N4 with
    | zero => intro z n h4_0 h4_1 h4_2 hN; exact absurd hN (Nat.not_lt_zero _)
    | succ N4 ih4 =>
      intro z n h4_0 h4_1 h4_2 hN4
      have hzb := zBld_b (fun j => decide (¬ zand (sSl v (sOth p j)) (zbit p) = 0)) n.toNat (by omega)
      refine z_iload_n C dX6_yesesTo_4 3 rfl ?_
      refine z_aload_n C dX6_yesesTo_5 0 rfl ?_
      refine z_iload_n C dX6_yesesTo_6 1 rfl ?_
      refine z_callVi C (c_X6_others (zl X) μ v hq ho p (by omega)) yyX6_others mlX6_206 (zRc_of (i := 31) C (by decide) rfl rfl) dX6_yesesTo_7 rfl rfl (Nat.le_of_ble_eq_true rfl) (by decide) (fun r1 m1 hr1 hp1 => ?_)
      obtain ⟨rfl, hp1⟩ := hp1
      rw [hp1]
      refine z_icmp_ge C dX6_yesesTo_10 (tgt := 43) (by decide) (by omega) (by omega) (fun c2 => ?_) (fun c2 => ?_)
      · refine z_iload_n C dX6_yesesTo_43 2 rfl ?_
        exact E dX6_yesesTo_44 (by omega) rfl ⟨rfl, (by rw [sToN_bld ho (by omega), h4_2, show n = vF v p by omega])⟩
      · refine z_iload_n C dX6_yesesTo_13 2 rfl ?_
        refine z_aload_n C dX6_yesesTo_14 0 rfl ?_
        refine z_aload_n C dX6_yesesTo_15 0 rfl ?_
        refine z_iload_n C dX6_yesesTo_16 1 rfl ?_
        refine z_iload_n C dX6_yesesTo_17 3 rfl ?_
        have hoo : sOth p n = (if p < 5 then 5 + n else n) := rfl
        have hth : vTh v (sOth p n) := (vF_th (by omega) (by omega)).2 (by omega)
        have hzu : zU p (sOth p n) := by rw [hoo]; split <;> omega
        have hzr : zR (sOth p n) := by omega
        refine z_callVi C (c_X6_otherOf (zl X) μ p n (by omega) (by omega)) yyX6_otherOf mlX6_167 (zRc_of (i := 31) C (by decide) rfl rfl) dX6_yesesTo_18 rfl rfl (Nat.le_of_ble_eq_true rfl) (by decide) (fun r3 m3 hr3 hp3 => ?_)
        obtain ⟨rfl, hp3⟩ := hp3
        rw [hp3]
        refine z_iload_n C dX6_yesesTo_21 1 rfl ?_
        refine z_callVi C (c_X6_saysYes (zl X) μ v hq ho (sOth p n) p (by omega) (by omega)) yyX6_saysYes mlX6_209 (zRc_of (i := 31) C (by decide) rfl rfl) dX6_yesesTo_22 rfl rfl (Nat.le_of_ble_eq_true rfl) (by decide) (fun r4 m4 hr4 hp4 => ?_)
        obtain ⟨rfl, hp4⟩ := hp4
        rcases hp4 with ⟨rfl, hp4⟩ | ⟨rfl, hp4⟩
        · have hgy : (¬ zand (sSl v (sOth p n)) (zbit p) = 0) := by exact hp4
          refine z_if_eq C dX6_yesesTo_25 (tgt := 34) (by decide) (by decide) (fun c5 => (by exfalso; omega)) (fun _ => ?_)
          refine z_iconst C dX6_yesesTo_28 ?_
          refine z_iload_n C dX6_yesesTo_29 3 rfl ?_
          refine z_ishl C dX6_yesesTo_30 ?_
          refine z_goto C dX6_yesesTo_31 (tgt := 35) (by decide) ?_
          refine z_ior C dX6_yesesTo_35 ?_
          have hzs := zshl_bit (j := n) (by omega)
          refine z_istore_n C dX6_yesesTo_36 (by decide) (L' := [(0, _), (1, _), (2, _), (3, _)]) rfl ?_
          refine z_iinc C dX6_yesesTo_37 3 rfl (by decide) (L' := [(0, _), (1, _), (2, _), (3, _)]) rfl ?_
          refine z_goto C dX6_yesesTo_40 (tgt := 4) (by decide) ?_
          exact ih4 _ _ (by omega) (by omega) (by rw [zBld_s _ (by omega), ← h4_2, if_pos (decide_eq_true hgy)]) (by omega)
        · have hgy : ¬ (¬ zand (sSl v (sOth p n)) (zbit p) = 0) := by exact hp4
          refine z_if_eq C dX6_yesesTo_25 (tgt := 34) (by decide) (by decide) (fun _ => ?_) (fun c6 => (by exfalso; omega))
          refine z_iconst C dX6_yesesTo_34 ?_
          refine z_ior C dX6_yesesTo_35 ?_
          have hzs := zshl_bit (j := n) (by omega)
          refine z_istore_n C dX6_yesesTo_36 (by decide) (L' := [(0, _), (1, _), (2, _), (3, _)]) rfl ?_
          refine z_iinc C dX6_yesesTo_37 3 rfl (by decide) (L' := [(0, _), (1, _), (2, _), (3, _)]) rfl ?_
          refine z_goto C dX6_yesesTo_40 (tgt := 4) (by decide) ?_
          exact ih4 _ _ (by omega) (by omega) (by rw [zBld_s _ (by omega), ← h4_2, if_neg (by rw [decide_eq_false hgy]; intro q; cases q)]) (by omega)
  exact LP4 _ 0 0 (by omega) (by omega) rfl (Nat.lt_succ_self _)
set_option maxHeartbeats 4000000 in
theorem c_X6_gapsOf (l : Launch) (μ : zM) (v : zVw) (hq : zQ μ v) (ho : vOK v) (p : Int) (hp : vTh v p) : zMi l yX6_gapsOf cX6_gapsOf 4 (.int) 2 44 [.inr 31, .inl p] μ (fun (r : Int) (m : zM) => μ = m ∧ r = sGap v p) := by
  refine zMi_of (own := RX6) (by decide +kernel) rfl (Nat.le_of_ble_eq_true rfl) ?_
  intro X hX C hrm E
  subst hX
  show zJ X 4 μ 0 [(0, .inr 31), (1, .inl p)] []
  obtain ⟨hq1, hq2, hq3, hq4, hq5, hq6, hq7⟩ := id hq
  obtain ⟨ho1, ho2, ho3, ho4, ho5, ho6, ho7⟩ := id ho
  have hN := vN_ok ho
  refine z_iconst C dX6_gapsOf_0 ?_
  refine z_istore_n C dX6_gapsOf_1 (by decide) (L' := [(0, _), (1, _), (2, _)]) rfl ?_
  refine z_iconst C dX6_gapsOf_2 ?_
  refine z_istore_n C dX6_gapsOf_3 (by decide) (L' := [(0, _), (1, _), (2, _), (3, _)]) rfl ?_
  have LP4 : ∀ (N4 : Nat) (z : Int) (k : Int), (0 ≤ k) → (k ≤ vN v) → (z = sGpN v p k.toNat) → (6 - k).toNat < N4 → zJ X 4 μ 4 [(0, .inr 31), (1, .inl p), (2, .inl z), (3, .inl k)] [] := by
    intro N4
    induction N4 with
    | zero => intro z k h4_0 h4_1 h4_2 hN; exact absurd hN (Nat.not_lt_zero _)
    | succ N4 ih4 =>
      intro z k h4_0 h4_1 h4_2 hN4
      have hgb := sGpN_b v p k.toNat
      have hU := sPar_U ho (p := p) (k := k)
      refine z_iload_n C dX6_gapsOf_4 3 rfl ?_
      refine z_aload_n C dX6_gapsOf_5 0 rfl ?_
      refine z_callVi C (c_X6_roundsNow (zl X) μ v hq ho) yyX6_roundsNow mlX6_187 (zRc_of (i := 31) C (by decide) rfl rfl) dX6_gapsOf_6 rfl rfl (Nat.le_of_ble_eq_true rfl) (by decide) (fun r1 m1 hr1 hp1 => ?_)
      obtain ⟨rfl, hp1⟩ := hp1
      rw [hp1]
      refine z_icmp_ge C dX6_gapsOf_9 (tgt := 35) (by decide) (by omega) (by omega) (fun c2 => ?_) (fun c2 => ?_)
      · refine z_iload_n C dX6_gapsOf_35 2 rfl ?_
        exact E dX6_gapsOf_36 (by omega) rfl ⟨rfl, (by unfold sGap; rw [h4_2, show k = vN v by omega])⟩
      · refine z_iload_n C dX6_gapsOf_12 2 rfl ?_
        refine z_aload_n C dX6_gapsOf_13 0 rfl ?_
        refine z_iload_n C dX6_gapsOf_14 1 rfl ?_
        refine z_iload_n C dX6_gapsOf_15 3 rfl ?_
        refine z_callVi C (c_X6_metBy (zl X) μ v hq ho p k (by omega) (by omega)) yyX6_metBy mlX6_190 (zRc_of (i := 31) C (by decide) rfl rfl) dX6_gapsOf_16 rfl rfl (Nat.le_of_ble_eq_true rfl) (by decide) (fun r3 m3 hr3 hp3 => ?_)
        obtain ⟨rfl, hp3⟩ := hp3
        rw [hp3]
        refine z_if_ge C dX6_gapsOf_19 (tgt := 26) (by decide) (by omega) (fun c4 => ?_) (fun c4 => ?_)
        · refine z_iconst C dX6_gapsOf_26 ?_
          refine z_iadd C dX6_gapsOf_27 ?_
          refine z_istore_n C dX6_gapsOf_28 (by decide) (L' := [(0, _), (1, _), (2, _), (3, _)]) rfl ?_
          refine z_iinc C dX6_gapsOf_29 3 rfl (by decide) (L' := [(0, _), (1, _), (2, _), (3, _)]) rfl ?_
          refine z_goto C dX6_gapsOf_32 (tgt := 4) (by decide) ?_
          exact ih4 _ _ (by omega) (by omega) (by rw [sGpN_s v p (by omega), ← h4_2, if_neg (by omega)]) (by omega)
        · refine z_iconst C dX6_gapsOf_22 ?_
          refine z_goto C dX6_gapsOf_23 (tgt := 27) (by decide) ?_
          refine z_iadd C dX6_gapsOf_27 ?_
          refine z_istore_n C dX6_gapsOf_28 (by decide) (L' := [(0, _), (1, _), (2, _), (3, _)]) rfl ?_
          refine z_iinc C dX6_gapsOf_29 3 rfl (by decide) (L' := [(0, _), (1, _), (2, _), (3, _)]) rfl ?_
          refine z_goto C dX6_gapsOf_32 (tgt := 4) (by decide) ?_
          exact ih4 _ _ (by omega) (by omega) (by rw [sGpN_s v p (by omega), ← h4_2, if_pos (by omega)]) (by omega)
  exact LP4 _ 0 0 (by omega) (by omega) rfl (Nat.lt_succ_self _)
