/-! contracts: Rounds, what is asked of the tables -/
set_option maxHeartbeats 4000000 in
theorem c_X2_gaps (l : Launch) (μ : zM) (v : zVw) (ho : vOK v) (hh : zH μ v) (p : Int) (hp : 0 ≤ p ∧ p < 10) : zMi l yX2_gaps cX2_gaps 4 (.int) 0 0 [.inr 18, .inl p] μ (fun (r : Int) (m : zM) => μ = m ∧ r = sGap v p) := by
  refine zMi_of (own := RX2) (by decide +kernel) rfl (Nat.le_of_ble_eq_true rfl) ?_
  intro X hX C hrm E
  subst hX
  show zJ X 4 μ 0 [(0, .inr 18), (1, .inl p)] []
  obtain ⟨hh1, hh2, hh3, hh4⟩ := id hh
  obtain ⟨n1, n2, n3, n4⟩ := vN_ok ho
  refine z_iconst C dX2_gaps_0 ?_
  refine z_istore_n C dX2_gaps_1 (by decide) (L' := [(0, _), (1, _), (2, _)]) rfl ?_
  refine z_iconst C dX2_gaps_2 ?_
  refine z_istore_n C dX2_gaps_3 (by decide) (L' := [(0, _), (1, _), (2, _), (3, _)]) rfl ?_
  have LP4 : ∀ (N4 : Nat) (n : Int) (j : Int), (0 ≤ j) → (j ≤ vN v) → (n = sGpN v p j.toNat) → (5 - j).toNat < N4 → zJ X 4 μ 4 [(0, .inr 18), (1, .inl p), (2, .inl n), (3, .inl j)] [] := by
    intro N4
    induction N4 with
    | zero => intro n j h4_0 h4_1 h4_2 hN; exact absurd hN (Nat.not_lt_zero _)
    | succ N4 ih4 =>
      intro n j h4_0 h4_1 h4_2 hN4
      refine z_iload_n C dX2_gaps_4 3 rfl ?_
      refine z_aload_n C dX2_gaps_5 0 rfl ?_
      refine z_getI C ffX2_27 dX2_gaps_6 (by decide) rfl rfl 4 rfl (fun hr1 => ?_)
      rw [hh1]
      refine z_icmp_ge C dX2_gaps_9 (tgt := 34) (by decide) (by omega) (by omega) (fun c2 => ?_) (fun c2 => ?_)
      · have hb := sGap_b ho p
        refine z_iload_n C dX2_gaps_34 2 rfl ?_
        exact E dX2_gaps_35 (by unfold sGap at hb; rw [show j = vN v by omega] at h4_2; omega) rfl ⟨rfl, (by rw [h4_2, show j = vN v by omega]; rfl)⟩
      · refine z_aload_n C dX2_gaps_12 0 rfl ?_
        refine z_getR C ffX2_11 dX2_gaps_13 (by decide) rfl rfl ?_
        refine z_iload_n C dX2_gaps_16 1 rfl ?_
        refine z_aald C dX2_gaps_17 (by decide) rfl (by omega) (by decide) ?_
        refine z_iload_n C dX2_gaps_18 3 rfl ?_
        refine z_iald C dX2_gaps_19 (by omega) (zd_row (by omega)) (by omega) (by decide) (fun hr3 => ?_)
        rw [(hh4 p j (by omega) (by omega) (by omega) (by omega)).1]
        have hu := sPar_U ho (p := p) (k := j)
        refine z_bipush C dX2_gaps_20 (by decide) ?_
        refine z_icmp_ne C dX2_gaps_22 (tgt := 28) (by decide) (by omega) (by decide) (fun c4 => ?_) (fun c4 => ?_)
        · refine z_iinc C dX2_gaps_28 3 rfl (by decide) (L' := [(0, _), (1, _), (2, _), (3, _)]) rfl ?_
          refine z_goto C dX2_gaps_31 (tgt := 4) (by decide) ?_
          exact ih4 _ _ (by omega) (by omega) (by rw [sGpN_s v p (by omega), h4_2]; rw [if_neg (by omega), Int.add_zero]) (by omega)
        · refine z_iinc C dX2_gaps_25 2 rfl (by decide) (L' := [(0, _), (1, _), (2, _), (3, _)]) rfl ?_
          refine z_iinc C dX2_gaps_28 3 rfl (by decide) (L' := [(0, _), (1, _), (2, _), (3, _)]) rfl ?_
          refine z_goto C dX2_gaps_31 (tgt := 4) (by decide) ?_
          exact ih4 _ _ (by omega) (by omega) (by rw [sGpN_s v p (by omega), h4_2]; rw [if_pos (by omega)]) (by omega)
  exact LP4 _ 0 0 (by omega) (by omega) rfl (Nat.lt_succ_self _)
set_option maxHeartbeats 4000000 in
theorem c_X2_allGaps (l : Launch) (μ : zM) (t : Nat) (ht : zTo t) (v : zVw) (hv : zT μ t v) (ho : vOK v) (hh : zH μ v) : zMi l yX2_allGaps cX2_allGaps 4 (.int) 2 41 [.inr 18, .inr t] μ (fun (r : Int) (m : zM) => μ = m ∧ r = sGaN v 10) := by
  refine zMi_of (own := RX2) (by decide +kernel) rfl (Nat.le_of_ble_eq_true rfl) ?_
  intro X hX C hrm E
  subst hX
  show zJ X 4 μ 0 [(0, .inr 18), (1, .inr t)] []
  obtain ⟨hv1, hv2, hv3, hv4, hv5, hv6, hv7⟩ := id hv
  obtain ⟨ho1, ho2, ho3, ho4, ho5, ho6, ho7⟩ := id ho
  obtain ⟨hh1, hh2, hh3, hh4⟩ := id hh
  obtain ⟨n1, n2, n3, n4⟩ := vN_ok ho
  refine z_iconst C dX2_allGaps_0 ?_
  refine z_istore_n C dX2_allGaps_1 (by decide) (L' := [(0, _), (1, _), (2, _)]) rfl ?_
  refine z_iconst C dX2_allGaps_2 ?_
  refine z_istore_n C dX2_allGaps_3 (by decide) (L' := [(0, _), (1, _), (2, _), (3, _)]) rfl ?_
  have LP4 : ∀ (N4 : Nat) (n : Int) (i : Int), (0 ≤ i) → (i ≤ 10) → (n = sGaN v i.toNat) → (10 - i).toNat < N4 → zJ X 4 μ 4 [(0, .inr 18), (1, .inr t), (2, .inl n), (3, .inl i)] [] := by
    intro N4
    induction N4 with
    | zero => intro n i h4_0 h4_1 h4_2 hN; exact absurd hN (Nat.not_lt_zero _)
    | succ N4 ih4 =>
      intro n i h4_0 h4_1 h4_2 hN4
      refine z_iload_n C dX2_allGaps_4 3 rfl ?_
      refine z_bipush C dX2_allGaps_5 (by decide) ?_
      refine z_icmp_ge C dX2_allGaps_7 (tgt := 32) (by decide) (by omega) (by decide) (fun c1 => ?_) (fun c1 => ?_)
      · have hb := sGaN_b ho i.toNat
        have e10 : i.toNat = 10 := by omega
        rw [e10] at h4_2 hb
        refine z_iload_n C dX2_allGaps_32 2 rfl ?_
        exact E dX2_allGaps_33 (by omega) rfl ⟨rfl, h4_2⟩
      · refine z_aload_n C dX2_allGaps_10 1 rfl ?_
        refine z_iload_n C dX2_allGaps_11 3 rfl ?_
        refine z_callVi C (c_X4_isThere (zl X) μ t ht v hv ho i (by omega)) yyX4_isThere mlX2_36 (zRc_of (i := t) C (by have := zto_lt ht; omega) (zd_to0 ht) rfl) dX2_allGaps_12 rfl rfl (Nat.le_of_ble_eq_true rfl) (by decide) (fun r2 m2 hr2 hp2 => ?_)
        obtain ⟨rfl, hp2⟩ := hp2
        rcases hp2 with ⟨rfl, hp2⟩ | ⟨rfl, hp2⟩
        · refine z_if_eq C dX2_allGaps_15 (tgt := 26) (by decide) (by decide) (fun c3 => (by exfalso; omega)) (fun _ => ?_)
          refine z_iload_n C dX2_allGaps_18 2 rfl ?_
          refine z_aload_n C dX2_allGaps_19 0 rfl ?_
          refine z_iload_n C dX2_allGaps_20 3 rfl ?_
          refine z_callVi C (c_X2_gaps (zl X) μ v ho hh i (by omega)) yyX2_gaps mlX2_91 (zRc_of (i := 18) C (by decide) rfl rfl) dX2_allGaps_21 rfl rfl (Nat.le_of_ble_eq_true rfl) (by decide) (fun r4 m4 hr4 hp4 => ?_)
          obtain ⟨rfl, hp4⟩ := hp4
          rw [hp4]
          refine z_iadd C dX2_allGaps_24 ?_
          refine z_istore_n C dX2_allGaps_25 (by decide) (L' := [(0, _), (1, _), (2, _), (3, _)]) rfl ?_
          refine z_iinc C dX2_allGaps_26 3 rfl (by decide) (L' := [(0, _), (1, _), (2, _), (3, _)]) rfl ?_
          refine z_goto C dX2_allGaps_29 (tgt := 4) (by decide) ?_
          exact ih4 _ _ (by omega) (by omega) (by rw [sGaN_s v (by omega), if_pos (by omega), h4_2]) (by omega)
        · refine z_if_eq C dX2_allGaps_15 (tgt := 26) (by decide) (by decide) (fun _ => ?_) (fun c5 => (by exfalso; omega))
          refine z_iinc C dX2_allGaps_26 3 rfl (by decide) (L' := [(0, _), (1, _), (2, _), (3, _)]) rfl ?_
          refine z_goto C dX2_allGaps_29 (tgt := 4) (by decide) ?_
          exact ih4 _ _ (by omega) (by omega) (by rw [sGaN_s v (by omega), if_neg (by omega), Int.add_zero, h4_2]) (by omega)
  exact LP4 _ 0 0 (by omega) (by omega) rfl (Nat.lt_succ_self _)
set_option maxHeartbeats 4000000 in
theorem c_X2_saysYes (l : Launch) (μ : zM) (x y : Int) (hx : 0 ≤ x ∧ x < 10) (hy : 0 ≤ y ∧ y < 10) (hs : 0 ≤ μ 21 x ∧ μ 21 x < 32) : zMi l yX2_saysYes cX2_saysYes 3 (.boolean) 1 20 [.inr 18, .inl x, .inl y] μ (fun (r : Int) (m : zM) => μ = m ∧ ((r = 1 ∧ (¬ zand (μ 21 x) (zbit y) = 0)) ∨ (r = 0 ∧ ¬ (¬ zand (μ 21 x) (zbit y) = 0)))) := by
  refine zMi_of (own := RX2) (by decide +kernel) rfl (Nat.le_of_ble_eq_true rfl) ?_
  intro X hX C hrm E
  subst hX
  show zJ X 3 μ 0 [(0, .inr 18), (1, .inl x), (2, .inl y)] []
  have hzb := zand_b (μ 21 x) hs.1 hs.2 y hy.1 hy.2
  refine z_aload_n C dX2_saysYes_0 0 rfl ?_
  refine z_getR C ffX2_19 dX2_saysYes_1 (by decide) rfl rfl ?_
  refine z_iload_n C dX2_saysYes_4 1 rfl ?_
  refine z_iald C dX2_saysYes_5 (by decide) rfl (by omega) (by decide) (fun hr1 => ?_)
  refine z_iload_n C dX2_saysYes_6 2 rfl ?_
  refine z_callNi C (c_X5_bitOf (zl X) μ y (by omega)) yyX5_bitOf (by decide +kernel) dX2_saysYes_7 rfl rfl (Nat.le_of_ble_eq_true rfl) (by decide) (fun r2 m2 hr2 hp2 => ?_)
  obtain ⟨rfl, hp2⟩ := hp2
  rw [hp2]
  refine z_iand C dX2_saysYes_10 ?_
  refine z_if_eq C dX2_saysYes_11 (tgt := 18) (by decide) (by omega) (fun c3 => ?_) (fun c3 => ?_)
  · refine z_iconst C dX2_saysYes_18 ?_
    exact E dX2_saysYes_19 (by decide) (z_nb (Or.inl rfl)) ⟨rfl, Or.inr ⟨rfl, by omega⟩⟩
  · refine z_iconst C dX2_saysYes_14 ?_
    refine z_goto C dX2_saysYes_15 (tgt := 19) (by decide) ?_
    exact E dX2_saysYes_19 (by decide) (z_nb (Or.inr rfl)) ⟨rfl, Or.inl ⟨rfl, by omega⟩⟩
set_option maxHeartbeats 4000000 in
theorem c_X2_slipsFor (l : Launch) (μ : zM) (v : zVw) (ho : vOK v) (hh : zH μ v) (p : Int) (hp : 0 ≤ p ∧ p < 10) : zMi l yX2_slipsFor cX2_slipsFor 5 (.int) 2 42 [.inr 18, .inl p] μ (fun (r : Int) (m : zM) => μ = m ∧ r = sToN v p 5) := by
  refine zMi_of (own := RX2) (by decide +kernel) rfl (Nat.le_of_ble_eq_true rfl) ?_
  intro X hX C hrm E
  subst hX
  show zJ X 5 μ 0 [(0, .inr 18), (1, .inl p)] []
  obtain ⟨hh1, hh2, hh3, hh4⟩ := id hh
  obtain ⟨n1, n2, n3, n4⟩ := vN_ok ho
  refine z_iconst C dX2_slipsFor_0 ?_
  refine z_istore_n C dX2_slipsFor_1 (by decide) (L' := [(0, _), (1, _), (2, _)]) rfl ?_
  refine z_iconst C dX2_slipsFor_2 ?_
  refine z_istore_n C dX2_slipsFor_3 (by decide) (L' := [(0, _), (1, _), (2, _), (3, _)]) rfl ?_
  have LP4 : ∀ (N4 : Nat) (n : Int) (i : Int), (0 ≤ i) → (i ≤ 5) → (n = sToN v p i.toNat) → (5 - i).toNat < N4 → zJ X 5 μ 4 [(0, .inr 18), (1, .inl p), (2, .inl n), (3, .inl i)] [] := by
    intro N4
    induction N4 with
    | zero => intro n i h4_0 h4_1 h4_2 hN; exact absurd hN (Nat.not_lt_zero _)
    | succ N4 ih4 =>
      intro n i h4_0 h4_1 h4_2 hN4
      refine z_iload_n C dX2_slipsFor_4 3 rfl ?_
      refine z_iconst C dX2_slipsFor_5 ?_
      refine z_icmp_ge C dX2_slipsFor_6 (tgt := 41) (by decide) (by omega) (by decide) (fun c1 => ?_) (fun c1 => ?_)
      · have hb := sToN_b v p i.toNat (by omega)
        have e5 : i.toNat = 5 := by omega
        rw [e5] at h4_2 hb
        refine z_iload_n C dX2_slipsFor_41 2 rfl ?_
        exact E dX2_slipsFor_42 (by omega) rfl ⟨rfl, h4_2⟩
      · refine z_iload_n C dX2_slipsFor_9 1 rfl ?_
        refine z_callNi C (c_X5_otherStart (zl X) μ p (by omega)) yyX5_otherStart (by decide +kernel) dX2_slipsFor_10 rfl rfl (Nat.le_of_ble_eq_true rfl) (by decide) (fun r2 m2 hr2 hp2 => ?_)
        obtain ⟨rfl, hp2⟩ := hp2
        rcases hp2 with ⟨hp2, rfl⟩ | ⟨hp2, rfl⟩
        · refine z_iload_n C dX2_slipsFor_13 3 rfl ?_
          refine z_iadd C dX2_slipsFor_14 ?_
          have eo : (5 + i) = sOth p i := by unfold sOth; split <;> omega
          rw [eo]
          have ob : 0 ≤ sOth p i ∧ sOth p i < 10 := by omega
          have hsl := hh3 (sOth p i) ob.1 ob.2
          have hsb := sSlN_b ho (sOth p i) 5
          refine z_istore C dX2_slipsFor_15 (by decide) (L' := [(0, _), (1, _), (2, _), (3, _), (4, _)]) rfl ?_
          refine z_aload_n C dX2_slipsFor_17 0 rfl ?_
          refine z_iload C dX2_slipsFor_18 4 rfl ?_
          refine z_iload_n C dX2_slipsFor_20 1 rfl ?_
          refine z_callVi C (c_X2_saysYes (zl X) μ (sOth p i) p (by omega) (by omega) (by rw [hsl]; exact hsb)) yyX2_saysYes mlX2_94 (zRc_of (i := 18) C (by decide) rfl rfl) dX2_slipsFor_21 rfl rfl (Nat.le_of_ble_eq_true rfl) (by decide) (fun r3 m3 hr3 hp3 => ?_)
          obtain ⟨rfl, hp3⟩ := hp3
          rcases hp3 with ⟨rfl, hp3⟩ | ⟨rfl, hp3⟩
          · have eqs_ := hp3
            rw [hsl] at eqs_
            refine z_if_eq C dX2_slipsFor_24 (tgt := 35) (by decide) (by decide) (fun c4 => (by exfalso; omega)) (fun _ => ?_)
            refine z_iload_n C dX2_slipsFor_27 2 rfl ?_
            refine z_iload C dX2_slipsFor_28 4 rfl ?_
            refine z_callNi C (c_X5_bitOf (zl X) μ (sOth p i) (by omega)) yyX5_bitOf (by decide +kernel) dX2_slipsFor_30 rfl rfl (Nat.le_of_ble_eq_true rfl) (by decide) (fun r5 m5 hr5 hp5 => ?_)
            obtain ⟨rfl, hp5⟩ := hp5
            rw [hp5]
            refine z_ior C dX2_slipsFor_33 ?_
            refine z_istore_n C dX2_slipsFor_34 (by decide) (L' := [(0, _), (1, _), (2, _), (3, _), (4, _)]) rfl ?_
            refine z_iinc C dX2_slipsFor_35 3 rfl (by decide) (L' := [(0, _), (1, _), (2, _), (3, _), (4, _)]) rfl ?_
            refine z_goto C dX2_slipsFor_38 (tgt := 4) (by decide) ?_
            refine z_sub [0, 1, 2, 3] rfl ?_; exact ih4 _ _ (by omega) (by omega) (by rw [sToN_s v p (by omega), if_pos eqs_, h4_2]) (by omega)
          · have eqs_ := hp3
            rw [hsl] at eqs_
            refine z_if_eq C dX2_slipsFor_24 (tgt := 35) (by decide) (by decide) (fun _ => ?_) (fun c6 => (by exfalso; omega))
            refine z_iinc C dX2_slipsFor_35 3 rfl (by decide) (L' := [(0, _), (1, _), (2, _), (3, _), (4, _)]) rfl ?_
            refine z_goto C dX2_slipsFor_38 (tgt := 4) (by decide) ?_
            refine z_sub [0, 1, 2, 3] rfl ?_; exact ih4 _ _ (by omega) (by omega) (by rw [sToN_s v p (by omega), if_neg eqs_, h4_2]) (by omega)
        · refine z_iload_n C dX2_slipsFor_13 3 rfl ?_
          refine z_iadd C dX2_slipsFor_14 ?_
          have eo : (0 + i) = sOth p i := by unfold sOth; split <;> omega
          rw [eo]
          have ob : 0 ≤ sOth p i ∧ sOth p i < 10 := by omega
          have hsl := hh3 (sOth p i) ob.1 ob.2
          have hsb := sSlN_b ho (sOth p i) 5
          refine z_istore C dX2_slipsFor_15 (by decide) (L' := [(0, _), (1, _), (2, _), (3, _), (4, _)]) rfl ?_
          refine z_aload_n C dX2_slipsFor_17 0 rfl ?_
          refine z_iload C dX2_slipsFor_18 4 rfl ?_
          refine z_iload_n C dX2_slipsFor_20 1 rfl ?_
          refine z_callVi C (c_X2_saysYes (zl X) μ (sOth p i) p (by omega) (by omega) (by rw [hsl]; exact hsb)) yyX2_saysYes mlX2_94 (zRc_of (i := 18) C (by decide) rfl rfl) dX2_slipsFor_21 rfl rfl (Nat.le_of_ble_eq_true rfl) (by decide) (fun r7 m7 hr7 hp7 => ?_)
          obtain ⟨rfl, hp7⟩ := hp7
          rcases hp7 with ⟨rfl, hp7⟩ | ⟨rfl, hp7⟩
          · have eqs_ := hp7
            rw [hsl] at eqs_
            refine z_if_eq C dX2_slipsFor_24 (tgt := 35) (by decide) (by decide) (fun c8 => (by exfalso; omega)) (fun _ => ?_)
            refine z_iload_n C dX2_slipsFor_27 2 rfl ?_
            refine z_iload C dX2_slipsFor_28 4 rfl ?_
            refine z_callNi C (c_X5_bitOf (zl X) μ (sOth p i) (by omega)) yyX5_bitOf (by decide +kernel) dX2_slipsFor_30 rfl rfl (Nat.le_of_ble_eq_true rfl) (by decide) (fun r9 m9 hr9 hp9 => ?_)
            obtain ⟨rfl, hp9⟩ := hp9
            rw [hp9]
            refine z_ior C dX2_slipsFor_33 ?_
            refine z_istore_n C dX2_slipsFor_34 (by decide) (L' := [(0, _), (1, _), (2, _), (3, _), (4, _)]) rfl ?_
            refine z_iinc C dX2_slipsFor_35 3 rfl (by decide) (L' := [(0, _), (1, _), (2, _), (3, _), (4, _)]) rfl ?_
            refine z_goto C dX2_slipsFor_38 (tgt := 4) (by decide) ?_
            refine z_sub [0, 1, 2, 3] rfl ?_; exact ih4 _ _ (by omega) (by omega) (by rw [sToN_s v p (by omega), if_pos eqs_, h4_2]) (by omega)
          · have eqs_ := hp7
            rw [hsl] at eqs_
            refine z_if_eq C dX2_slipsFor_24 (tgt := 35) (by decide) (by decide) (fun _ => ?_) (fun c10 => (by exfalso; omega))
            refine z_iinc C dX2_slipsFor_35 3 rfl (by decide) (L' := [(0, _), (1, _), (2, _), (3, _), (4, _)]) rfl ?_
            refine z_goto C dX2_slipsFor_38 (tgt := 4) (by decide) ?_
            refine z_sub [0, 1, 2, 3] rfl ?_; exact ih4 _ _ (by omega) (by omega) (by rw [sToN_s v p (by omega), if_neg eqs_, h4_2]) (by omega)
  exact LP4 _ 0 0 (by omega) (by omega) rfl (Nat.lt_succ_self _)
set_option maxHeartbeats 4000000 in
theorem c_X2_letAllMeetAll (l : Launch) (μ : zM) (t : Nat) (ht : zTo t) (v : zVw) (hv : zT μ t v) (ho : vOK v) (hh : zH μ v) : zMi l yX2_letAllMeetAll cX2_letAllMeetAll 7 (.boolean) 1 20 [.inr 18, .inr t] μ (fun (r : Int) (m : zM) => μ = m ∧ ((r = 1 ∧ (sAll v)) ∨ (r = 0 ∧ ¬ (sAll v)))) := by
  refine zMi_of (own := RX2) (by decide +kernel) rfl (Nat.le_of_ble_eq_true rfl) ?_
  intro X hX C hrm E
  subst hX
  show zJ X 7 μ 0 [(0, .inr 18), (1, .inr t)] []
  obtain ⟨hv1, hv2, hv3, hv4, hv5, hv6, hv7⟩ := id hv
  obtain ⟨ho1, ho2, ho3, ho4, ho5, ho6, ho7⟩ := id ho
  obtain ⟨hh1, hh2, hh3, hh4⟩ := id hh
  obtain ⟨n1, n2, n3, n4⟩ := vN_ok ho
  have hsb := zshl_b (vR v) (by omega) (by omega)
  refine z_iconst C dX2_letAllMeetAll_0 ?_
  refine z_aload_n C dX2_letAllMeetAll_1 1 rfl ?_
  refine z_getR C ffX2_97 dX2_letAllMeetAll_2 (by have := zto_lt ht; omega) (zd_to0 ht) rfl ?_
  refine z_iconst C dX2_letAllMeetAll_5 ?_
  refine z_iald C dX2_letAllMeetAll_6 (by have := zto_lt ht; omega) (zd_to1 ht) (by decide) (by decide) (fun hr1 => ?_)
  rw [hv2]
  refine z_ishl C dX2_letAllMeetAll_7 ?_
  refine z_iconst C dX2_letAllMeetAll_8 ?_
  refine z_isub C dX2_letAllMeetAll_9 ?_
  refine z_istore_n C dX2_letAllMeetAll_10 (by decide) (L' := [(0, _), (1, _), (2, _)]) rfl ?_
  refine z_iconst C dX2_letAllMeetAll_11 ?_
  refine z_istore_n C dX2_letAllMeetAll_12 (by decide) (L' := [(0, _), (1, _), (2, _), (3, _)]) rfl ?_
  have LP13 : ∀ (N13 : Nat) (i : Int), (0 ≤ i) → (i ≤ vL v) → (∀ l, 0 ≤ l → l < i → sMmN v l (vN v).toNat = zshl 1 (vR v) - 1) → (5 - i).toNat < N13 → zJ X 7 μ 13 [(0, .inr 18), (1, .inr t), (2, .inl ((zshl 1 (vR v)) - 1)), (3, .inl i)] [] := by
    intro N13
    induction N13 with
    | zero => intro i h13_0 h13_1 h13_2 hN; exact absurd hN (Nat.not_lt_zero _)
    | succ N13 ih13 =>
      intro i h13_0 h13_1 h13_2 hN13
      refine z_iload_n C dX2_letAllMeetAll_13 3 rfl ?_
      refine z_aload_n C dX2_letAllMeetAll_14 1 rfl ?_
      refine z_getR C ffX2_97 dX2_letAllMeetAll_15 (by have := zto_lt ht; omega) (zd_to0 ht) rfl ?_
      refine z_iconst C dX2_letAllMeetAll_18 ?_
      refine z_iald C dX2_letAllMeetAll_19 (by have := zto_lt ht; omega) (zd_to1 ht) (by decide) (by decide) (fun hr2 => ?_)
      rw [hv1]
      refine z_icmp_ge C dX2_letAllMeetAll_20 (tgt := 90) (by decide) (by omega) (by omega) (fun c3 => ?_) (fun c3 => ?_)
      · refine z_iconst C dX2_letAllMeetAll_90 ?_
        exact E dX2_letAllMeetAll_91 (by decide) (z_nb (Or.inr rfl)) ⟨rfl, Or.inl ⟨rfl, (fun l l0 l1 => h13_2 l l0 (by omega))⟩⟩
      · refine z_iconst C dX2_letAllMeetAll_23 ?_
        refine z_istore C dX2_letAllMeetAll_24 (by decide) (L' := [(0, _), (1, _), (2, _), (3, _), (4, _)]) rfl ?_
        refine z_iconst C dX2_letAllMeetAll_26 ?_
        refine z_istore C dX2_letAllMeetAll_27 (by decide) (L' := [(0, _), (1, _), (2, _), (3, _), (4, _), (5, _)]) rfl ?_
        have LP29 : ∀ (N29 : Nat) (n : Int) (j : Int), (0 ≤ j) → (j ≤ vN v) → (n = sMmN v i j.toNat) → (5 - j).toNat < N29 → zJ X 7 μ 29 [(0, .inr 18), (1, .inr t), (2, .inl ((zshl 1 (vR v)) - 1)), (3, .inl i), (4, .inl n), (5, .inl j)] [] := by
          intro N29
          induction N29 with
          | zero => intro n j h29_0 h29_1 h29_2 hN; exact absurd hN (Nat.not_lt_zero _)
          | succ N29 ih29 =>
            intro n j h29_0 h29_1 h29_2 hN29
            refine z_iload C dX2_letAllMeetAll_29 5 rfl ?_
            refine z_aload_n C dX2_letAllMeetAll_31 0 rfl ?_
            refine z_getI C ffX2_27 dX2_letAllMeetAll_32 (by decide) rfl rfl 4 rfl (fun hr4 => ?_)
            rw [hh1]
            refine z_icmp_ge C dX2_letAllMeetAll_35 (tgt := 76) (by decide) (by omega) (by omega) (fun c5 => ?_) (fun c5 => ?_)
            · have hmb := sMmN_b ho i j.toNat
              rw [show j = vN v by omega] at h29_2 hmb
              refine z_iload C dX2_letAllMeetAll_76 4 rfl ?_
              refine z_iload_n C dX2_letAllMeetAll_78 2 rfl ?_
              refine z_icmp_eq C dX2_letAllMeetAll_79 (tgt := 84) (by decide) (by omega) (by omega) (fun c6 => ?_) (fun c6 => ?_)
              · have hm : sMmN v i (vN v).toNat = zshl 1 (vR v) - 1 := by omega
                refine z_iinc C dX2_letAllMeetAll_84 3 rfl (by decide) (L' := [(0, _), (1, _), (2, _), (3, _), (4, _), (5, _)]) rfl ?_
                refine z_goto C dX2_letAllMeetAll_87 (tgt := 13) (by decide) ?_
                refine z_sub [0, 1, 2, 3] rfl ?_; exact ih13 _ (by omega) (by omega) (fun l l0 l1 => by by_cases q : l = i; (rw [q]; exact hm); exact h13_2 l l0 (by omega)) (by omega)
              · refine z_iconst C dX2_letAllMeetAll_82 ?_
                exact E dX2_letAllMeetAll_83 (by decide) (z_nb (Or.inl rfl)) ⟨rfl, Or.inr ⟨rfl, (fun hq => by have := hq i (by omega) (by omega); omega)⟩⟩
            · refine z_aload_n C dX2_letAllMeetAll_38 0 rfl ?_
              refine z_getR C ffX2_11 dX2_letAllMeetAll_39 (by decide) rfl rfl ?_
              refine z_iload_n C dX2_letAllMeetAll_42 3 rfl ?_
              refine z_aald C dX2_letAllMeetAll_43 (by decide) rfl (by omega) (by decide) ?_
              refine z_iload C dX2_letAllMeetAll_44 5 rfl ?_
              refine z_iald C dX2_letAllMeetAll_46 (by omega) (zd_row (by omega)) (by omega) (by decide) (fun hr7 => ?_)
              rw [(hh4 i j (by omega) (by omega) (by omega) (by omega)).1]
              have hu := sPar_U ho (p := i) (k := j)
              refine z_istore C dX2_letAllMeetAll_47 (by decide) (L' := [(0, _), (1, _), (2, _), (3, _), (4, _), (5, _), (6, _)]) rfl ?_
              refine z_iload C dX2_letAllMeetAll_49 4 rfl ?_
              refine z_iload C dX2_letAllMeetAll_51 6 rfl ?_
              refine z_bipush C dX2_letAllMeetAll_53 (by decide) ?_
              refine z_icmp_ne C dX2_letAllMeetAll_55 (tgt := 62) (by decide) (by omega) (by decide) (fun c8 => ?_) (fun c8 => ?_)
              · refine z_iload C dX2_letAllMeetAll_62 6 rfl ?_
                refine z_callNi C (c_X5_bitOf (zl X) μ (sPar v i j) (by omega)) yyX5_bitOf (by decide +kernel) dX2_letAllMeetAll_64 rfl rfl (Nat.le_of_ble_eq_true rfl) (by decide) (fun r9 m9 hr9 hp9 => ?_)
                obtain ⟨rfl, hp9⟩ := hp9
                rw [hp9]
                refine z_ior C dX2_letAllMeetAll_67 ?_
                refine z_istore C dX2_letAllMeetAll_68 (by decide) (L' := [(0, _), (1, _), (2, _), (3, _), (4, _), (5, _), (6, _)]) rfl ?_
                refine z_iinc C dX2_letAllMeetAll_70 5 rfl (by decide) (L' := [(0, _), (1, _), (2, _), (3, _), (4, _), (5, _), (6, _)]) rfl ?_
                refine z_goto C dX2_letAllMeetAll_73 (tgt := 29) (by decide) ?_
                refine z_sub [0, 1, 2, 3, 4, 5] rfl ?_; exact ih29 _ _ (by omega) (by omega) (by rw [sMmN_s v i (by omega), if_neg (by omega), h29_2]) (by omega)
              · refine z_iconst C dX2_letAllMeetAll_58 ?_
                refine z_goto C dX2_letAllMeetAll_59 (tgt := 67) (by decide) ?_
                refine z_ior C dX2_letAllMeetAll_67 ?_
                have hmb := sMmN_b ho i j.toNat
                rw [zor_0 (by omega)]
                refine z_istore C dX2_letAllMeetAll_68 (by decide) (L' := [(0, _), (1, _), (2, _), (3, _), (4, _), (5, _), (6, _)]) rfl ?_
                refine z_iinc C dX2_letAllMeetAll_70 5 rfl (by decide) (L' := [(0, _), (1, _), (2, _), (3, _), (4, _), (5, _), (6, _)]) rfl ?_
                refine z_goto C dX2_letAllMeetAll_73 (tgt := 29) (by decide) ?_
                refine z_sub [0, 1, 2, 3, 4, 5] rfl ?_; exact ih29 _ _ (by omega) (by omega) (by rw [sMmN_s v i (by omega), if_pos (by omega), h29_2]) (by omega)
        exact LP29 _ 0 0 (by omega) (by omega) rfl (Nat.lt_succ_self _)
  exact LP13 _ 0 (by omega) (by omega) (fun l l0 l1 => by omega) (Nat.lt_succ_self _)
