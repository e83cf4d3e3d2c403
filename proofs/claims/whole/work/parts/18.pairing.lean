/-! contracts: Pairing, who asks whom -/
set_option maxHeartbeats 4000000 in
theorem c_J6_bitCount_0f7a4 (l : Launch) (μ : zM) (x : Int) (hx : 0 ≤ x ∧ x < 32) : zMi l yJ6_bitCount_0f7a4 cJ6_bitCount_0f7a4 1 (.int) 0 0 [.inl x] μ (fun (r : Int) (m : zM) => μ = m ∧ r = sPop x) := by
  refine zMi_ofF (own := RJ6) (by decide +kernel) rfl (Nat.le_of_ble_eq_true rfl) ?_
  intro X hX C hrm E
  subst hX
  show zJ X 1 μ 0 [(0, .inl x)] []
  refine z_iload_n C dJ6_bitCount_0f7a4_0 0 rfl ?_
  refine z_iload_n C dJ6_bitCount_0f7a4_1 0 rfl ?_
  refine z_iconst C dJ6_bitCount_0f7a4_2 ?_
  refine z_iushr C dJ6_bitCount_0f7a4_3 ?_
  refine z_ldcw C (n := 1431655765) dJ6_bitCount_0f7a4_4 kkJ6_265 ?_
  refine z_iand C dJ6_bitCount_0f7a4_7 ?_
  refine z_isub C dJ6_bitCount_0f7a4_8 ?_
  refine z_istore_n C dJ6_bitCount_0f7a4_9 (by decide) (L' := [(0, _)]) rfl ?_
  refine z_iload_n C dJ6_bitCount_0f7a4_10 0 rfl ?_
  refine z_ldcw C (n := 858993459) dJ6_bitCount_0f7a4_11 kkJ6_266 ?_
  refine z_iand C dJ6_bitCount_0f7a4_14 ?_
  refine z_iload_n C dJ6_bitCount_0f7a4_15 0 rfl ?_
  refine z_iconst C dJ6_bitCount_0f7a4_16 ?_
  refine z_iushr C dJ6_bitCount_0f7a4_17 ?_
  refine z_ldcw C (n := 858993459) dJ6_bitCount_0f7a4_18 kkJ6_266 ?_
  refine z_iand C dJ6_bitCount_0f7a4_21 ?_
  refine z_iadd C dJ6_bitCount_0f7a4_22 ?_
  refine z_istore_n C dJ6_bitCount_0f7a4_23 (by decide) (L' := [(0, _)]) rfl ?_
  refine z_iload_n C dJ6_bitCount_0f7a4_24 0 rfl ?_
  refine z_iload_n C dJ6_bitCount_0f7a4_25 0 rfl ?_
  refine z_iconst C dJ6_bitCount_0f7a4_26 ?_
  refine z_iushr C dJ6_bitCount_0f7a4_27 ?_
  refine z_iadd C dJ6_bitCount_0f7a4_28 ?_
  refine z_ldcw C (n := 252645135) dJ6_bitCount_0f7a4_29 kkJ6_267 ?_
  refine z_iand C dJ6_bitCount_0f7a4_32 ?_
  refine z_istore_n C dJ6_bitCount_0f7a4_33 (by decide) (L' := [(0, _)]) rfl ?_
  refine z_iload_n C dJ6_bitCount_0f7a4_34 0 rfl ?_
  refine z_iload_n C dJ6_bitCount_0f7a4_35 0 rfl ?_
  refine z_bipush C dJ6_bitCount_0f7a4_36 (by decide) ?_
  refine z_iushr C dJ6_bitCount_0f7a4_38 ?_
  refine z_iadd C dJ6_bitCount_0f7a4_39 ?_
  refine z_istore_n C dJ6_bitCount_0f7a4_40 (by decide) (L' := [(0, _)]) rfl ?_
  refine z_iload_n C dJ6_bitCount_0f7a4_41 0 rfl ?_
  refine z_iload_n C dJ6_bitCount_0f7a4_42 0 rfl ?_
  refine z_bipush C dJ6_bitCount_0f7a4_43 (by decide) ?_
  refine z_iushr C dJ6_bitCount_0f7a4_45 ?_
  refine z_iadd C dJ6_bitCount_0f7a4_46 ?_
  refine z_istore_n C dJ6_bitCount_0f7a4_47 (by decide) (L' := [(0, _)]) rfl ?_
  refine z_iload_n C dJ6_bitCount_0f7a4_48 0 rfl ?_
  refine z_bipush C dJ6_bitCount_0f7a4_49 (by decide) ?_
  refine z_iand C dJ6_bitCount_0f7a4_51 ?_
  exact E dJ6_bitCount_0f7a4_52 (zand_R _ _) rfl ⟨rfl, bc_val x hx.1 hx.2⟩
set_option maxHeartbeats 4000000 in
theorem c_X1_favourite (l : Launch) (μ : zM) (t : Nat) (ht : zTo t) (v : zVw) (hv : zT μ t v) (ho : vOK v) (p s : Int) (hp : 0 ≤ p ∧ p < 10) (hs : 0 ≤ s ∧ s < 32) : zMi l yX1_favourite cX1_favourite 7 (.int) 1 22 [.inr t, .inl p, .inl s] μ (fun (r : Int) (m : zM) => μ = m ∧ r = sFav v p s) := by
  refine zMi_of (own := RX1) (by decide +kernel) rfl (Nat.le_of_ble_eq_true rfl) ?_
  intro X hX C hrm E
  subst hX
  show zJ X 7 μ 0 [(0, .inr t), (1, .inl p), (2, .inl s)] []
  obtain ⟨hv1, hv2, hv3, hv4, hv5, hv6, hv7⟩ := id hv
  obtain ⟨ho1, ho2, ho3, ho4, ho5, ho6, ho7⟩ := id ho
  refine z_bipush C dX1_favourite_0 (by decide) ?_
  refine z_istore_n C dX1_favourite_2 (by decide) (L' := [(0, _), (1, _), (2, _), (3, _)]) rfl ?_
  refine z_iconst C dX1_favourite_3 ?_
  refine z_istore C dX1_favourite_4 (by decide) (L' := [(0, _), (1, _), (2, _), (3, _), (4, _)]) rfl ?_
  have LP6 : ∀ (N6 : Nat) (b : Int) (i : Int), (0 ≤ i) → (i ≤ 5) → (b = sFavN v p s i.toNat) → (5 - i).toNat < N6 → zJ X 7 μ 6 [(0, .inr t), (1, .inl p), (2, .inl s), (3, .inl b), (4, .inl i)] [] := by
    intro N6
    induction N6 with
    | zero => intro b i h6_0 h6_1 h6_2 hN; exact absurd hN (Nat.not_lt_zero _)
    | succ N6 ih6 =>
      intro b i h6_0 h6_1 h6_2 hN6
      have hb := sFavN_U v s hp i.toNat (by omega)
      rw [← h6_2] at hb
      refine z_iload C dX1_favourite_6 4 rfl ?_
      refine z_iconst C dX1_favourite_8 ?_
      refine z_icmp_ge C dX1_favourite_9 (tgt := 74) (by decide) (by omega) (by decide) (fun c1 => ?_) (fun c1 => ?_)
      · have e5 : i.toNat = 5 := by omega
        rw [e5] at h6_2
        refine z_iload_n C dX1_favourite_74 3 rfl ?_
        exact E dX1_favourite_75 (by omega) rfl ⟨rfl, h6_2⟩
      · refine z_iload_n C dX1_favourite_12 1 rfl ?_
        refine z_callNi C (c_X5_otherStart (zl X) μ p (by omega)) yyX5_otherStart (by decide +kernel) dX1_favourite_13 rfl rfl (Nat.le_of_ble_eq_true rfl) (by decide) (fun r2 m2 hr2 hp2 => ?_)
        obtain ⟨rfl, hp2⟩ := hp2
        rcases hp2 with ⟨hp2, rfl⟩ | ⟨hp2, rfl⟩
        · refine z_iload C dX1_favourite_16 4 rfl ?_
          refine z_iadd C dX1_favourite_18 ?_
          have eo : (5 + i) = sOth p i := by unfold sOth; split <;> omega
          rw [eo]
          have ob : zU p (sOth p i) := by omega
          refine z_istore C dX1_favourite_19 (by decide) (L' := [(0, _), (1, _), (2, _), (3, _), (4, _), (5, _)]) rfl ?_
          refine z_iload_n C dX1_favourite_21 2 rfl ?_
          refine z_iload C dX1_favourite_22 5 rfl ?_
          refine z_callNi C (c_X5_bitOf (zl X) μ (sOth p i) (by omega)) yyX5_bitOf (by decide +kernel) dX1_favourite_24 rfl rfl (Nat.le_of_ble_eq_true rfl) (by decide) (fun r3 m3 hr3 hp3 => ?_)
          obtain ⟨rfl, hp3⟩ := hp3
          rw [hp3]
          have hzb := zand_b s hs.1 hs.2 (sOth p i) (by omega) (by omega)
          refine z_iand C dX1_favourite_27 ?_
          refine z_if_eq C dX1_favourite_28 (tgt := 35) (by decide) (by omega) (fun c4 => ?_) (fun c4 => ?_)
          · refine z_iconst C dX1_favourite_35 ?_
            refine z_istore C dX1_favourite_36 (by decide) (L' := [(0, _), (1, _), (2, _), (3, _), (4, _), (5, _), (6, _)]) rfl ?_
            refine z_iload C dX1_favourite_38 6 rfl ?_
            refine z_if_eq C dX1_favourite_40 (tgt := 68) (by decide) (by decide) (fun _ => ?_) (fun c5 => (by exfalso; omega))
            refine z_iinc C dX1_favourite_68 4 rfl (by decide) (L' := [(0, _), (1, _), (2, _), (3, _), (4, _), (5, _), (6, _)]) rfl ?_
            refine z_goto C dX1_favourite_71 (tgt := 6) (by decide) ?_
            refine z_sub [0, 1, 2, 3, 4] rfl ?_; exact ih6 _ _ (by omega) (by omega) (by rw [sFavN_s v p s (by omega), ← h6_2]; exact (if_neg (by omega)).symm) (by omega)
          · refine z_iconst C dX1_favourite_31 ?_
            refine z_goto C dX1_favourite_32 (tgt := 36) (by decide) ?_
            refine z_istore C dX1_favourite_36 (by decide) (L' := [(0, _), (1, _), (2, _), (3, _), (4, _), (5, _), (6, _)]) rfl ?_
            refine z_iload C dX1_favourite_38 6 rfl ?_
            refine z_if_eq C dX1_favourite_40 (tgt := 68) (by decide) (by decide) (fun c6 => (by exfalso; omega)) (fun _ => ?_)
            refine z_iload_n C dX1_favourite_43 3 rfl ?_
            refine z_bipush C dX1_favourite_44 (by decide) ?_
            refine z_icmp_eq C dX1_favourite_46 (tgt := 65) (by decide) (by omega) (by decide) (fun c7 => ?_) (fun c7 => ?_)
            · refine z_iload C dX1_favourite_65 5 rfl ?_
              refine z_istore_n C dX1_favourite_67 (by decide) (L' := [(0, _), (1, _), (2, _), (3, _), (4, _), (5, _), (6, _)]) rfl ?_
              refine z_iinc C dX1_favourite_68 4 rfl (by decide) (L' := [(0, _), (1, _), (2, _), (3, _), (4, _), (5, _), (6, _)]) rfl ?_
              refine z_goto C dX1_favourite_71 (tgt := 6) (by decide) ?_
              refine z_sub [0, 1, 2, 3, 4] rfl ?_; exact ih6 _ _ (by omega) (by omega) (by rw [sFavN_s v p s (by omega), ← h6_2]; exact (if_pos (by omega)).symm) (by omega)
            · refine z_aload_n C dX1_favourite_49 0 rfl ?_
              refine z_iload_n C dX1_favourite_50 1 rfl ?_
              refine z_iload C dX1_favourite_51 5 rfl ?_
              refine z_callVi C (c_X4_likes (zl X) μ t ht v hv ho p (sOth p i) (by omega)) yyX4_likes mlX1_49 (zRc_of (i := t) C (by have := zto_lt ht; omega) (zd_to0 ht) rfl) dX1_favourite_53 rfl rfl (Nat.le_of_ble_eq_true rfl) (by decide) (fun r8 m8 hr8 hp8 => ?_)
              obtain ⟨rfl, hp8⟩ := hp8
              rw [hp8]
              have hq1 := ho7 p (sOth p i) ob
              refine z_aload_n C dX1_favourite_56 0 rfl ?_
              refine z_iload_n C dX1_favourite_57 1 rfl ?_
              refine z_iload_n C dX1_favourite_58 3 rfl ?_
              refine z_callVi C (c_X4_likes (zl X) μ t ht v hv ho p b (by omega)) yyX4_likes mlX1_49 (zRc_of (i := t) C (by have := zto_lt ht; omega) (zd_to0 ht) rfl) dX1_favourite_59 rfl rfl (Nat.le_of_ble_eq_true rfl) (by decide) (fun r9 m9 hr9 hp9 => ?_)
              obtain ⟨rfl, hp9⟩ := hp9
              rw [hp9]
              have hq2 := ho7 p b (by omega)
              refine z_icmp_le C dX1_favourite_62 (tgt := 68) (by decide) (by omega) (by omega) (fun c10 => ?_) (fun c10 => ?_)
              · refine z_iinc C dX1_favourite_68 4 rfl (by decide) (L' := [(0, _), (1, _), (2, _), (3, _), (4, _), (5, _), (6, _)]) rfl ?_
                refine z_goto C dX1_favourite_71 (tgt := 6) (by decide) ?_
                refine z_sub [0, 1, 2, 3, 4] rfl ?_; exact ih6 _ _ (by omega) (by omega) (by rw [sFavN_s v p s (by omega), ← h6_2]; exact (if_neg (by omega)).symm) (by omega)
              · refine z_iload C dX1_favourite_65 5 rfl ?_
                refine z_istore_n C dX1_favourite_67 (by decide) (L' := [(0, _), (1, _), (2, _), (3, _), (4, _), (5, _), (6, _)]) rfl ?_
                refine z_iinc C dX1_favourite_68 4 rfl (by decide) (L' := [(0, _), (1, _), (2, _), (3, _), (4, _), (5, _), (6, _)]) rfl ?_
                refine z_goto C dX1_favourite_71 (tgt := 6) (by decide) ?_
                refine z_sub [0, 1, 2, 3, 4] rfl ?_; exact ih6 _ _ (by omega) (by omega) (by rw [sFavN_s v p s (by omega), ← h6_2]; exact (if_pos (by omega)).symm) (by omega)
        · refine z_iload C dX1_favourite_16 4 rfl ?_
          refine z_iadd C dX1_favourite_18 ?_
          have eo : (0 + i) = sOth p i := by unfold sOth; split <;> omega
          rw [eo]
          have ob : zU p (sOth p i) := by omega
          refine z_istore C dX1_favourite_19 (by decide) (L' := [(0, _), (1, _), (2, _), (3, _), (4, _), (5, _)]) rfl ?_
          refine z_iload_n C dX1_favourite_21 2 rfl ?_
          refine z_iload C dX1_favourite_22 5 rfl ?_
          refine z_callNi C (c_X5_bitOf (zl X) μ (sOth p i) (by omega)) yyX5_bitOf (by decide +kernel) dX1_favourite_24 rfl rfl (Nat.le_of_ble_eq_true rfl) (by decide) (fun r11 m11 hr11 hp11 => ?_)
          obtain ⟨rfl, hp11⟩ := hp11
          rw [hp11]
          have hzb := zand_b s hs.1 hs.2 (sOth p i) (by omega) (by omega)
          refine z_iand C dX1_favourite_27 ?_
          refine z_if_eq C dX1_favourite_28 (tgt := 35) (by decide) (by omega) (fun c12 => ?_) (fun c12 => ?_)
          · refine z_iconst C dX1_favourite_35 ?_
            refine z_istore C dX1_favourite_36 (by decide) (L' := [(0, _), (1, _), (2, _), (3, _), (4, _), (5, _), (6, _)]) rfl ?_
            refine z_iload C dX1_favourite_38 6 rfl ?_
            refine z_if_eq C dX1_favourite_40 (tgt := 68) (by decide) (by decide) (fun _ => ?_) (fun c13 => (by exfalso; omega))
            refine z_iinc C dX1_favourite_68 4 rfl (by decide) (L' := [(0, _), (1, _), (2, _), (3, _), (4, _), (5, _), (6, _)]) rfl ?_
            refine z_goto C dX1_favourite_71 (tgt := 6) (by decide) ?_
            refine z_sub [0, 1, 2, 3, 4] rfl ?_; exact ih6 _ _ (by omega) (by omega) (by rw [sFavN_s v p s (by omega), ← h6_2]; exact (if_neg (by omega)).symm) (by omega)
          · refine z_iconst C dX1_favourite_31 ?_
            refine z_goto C dX1_favourite_32 (tgt := 36) (by decide) ?_
            refine z_istore C dX1_favourite_36 (by decide) (L' := [(0, _), (1, _), (2, _), (3, _), (4, _), (5, _), (6, _)]) rfl ?_
            refine z_iload C dX1_favourite_38 6 rfl ?_
            refine z_if_eq C dX1_favourite_40 (tgt := 68) (by decide) (by decide) (fun c14 => (by exfalso; omega)) (fun _ => ?_)
            refine z_iload_n C dX1_favourite_43 3 rfl ?_
            refine z_bipush C dX1_favourite_44 (by decide) ?_
            refine z_icmp_eq C dX1_favourite_46 (tgt := 65) (by decide) (by omega) (by decide) (fun c15 => ?_) (fun c15 => ?_)
            · refine z_iload C dX1_favourite_65 5 rfl ?_
              refine z_istore_n C dX1_favourite_67 (by decide) (L' := [(0, _), (1, _), (2, _), (3, _), (4, _), (5, _), (6, _)]) rfl ?_
              refine z_iinc C dX1_favourite_68 4 rfl (by decide) (L' := [(0, _), (1, _), (2, _), (3, _), (4, _), (5, _), (6, _)]) rfl ?_
              refine z_goto C dX1_favourite_71 (tgt := 6) (by decide) ?_
              refine z_sub [0, 1, 2, 3, 4] rfl ?_; exact ih6 _ _ (by omega) (by omega) (by rw [sFavN_s v p s (by omega), ← h6_2]; exact (if_pos (by omega)).symm) (by omega)
            · refine z_aload_n C dX1_favourite_49 0 rfl ?_
              refine z_iload_n C dX1_favourite_50 1 rfl ?_
              refine z_iload C dX1_favourite_51 5 rfl ?_
              refine z_callVi C (c_X4_likes (zl X) μ t ht v hv ho p (sOth p i) (by omega)) yyX4_likes mlX1_49 (zRc_of (i := t) C (by have := zto_lt ht; omega) (zd_to0 ht) rfl) dX1_favourite_53 rfl rfl (Nat.le_of_ble_eq_true rfl) (by decide) (fun r16 m16 hr16 hp16 => ?_)
              obtain ⟨rfl, hp16⟩ := hp16
              rw [hp16]
              have hq1 := ho7 p (sOth p i) ob
              refine z_aload_n C dX1_favourite_56 0 rfl ?_
              refine z_iload_n C dX1_favourite_57 1 rfl ?_
              refine z_iload_n C dX1_favourite_58 3 rfl ?_
              refine z_callVi C (c_X4_likes (zl X) μ t ht v hv ho p b (by omega)) yyX4_likes mlX1_49 (zRc_of (i := t) C (by have := zto_lt ht; omega) (zd_to0 ht) rfl) dX1_favourite_59 rfl rfl (Nat.le_of_ble_eq_true rfl) (by decide) (fun r17 m17 hr17 hp17 => ?_)
              obtain ⟨rfl, hp17⟩ := hp17
              rw [hp17]
              have hq2 := ho7 p b (by omega)
              refine z_icmp_le C dX1_favourite_62 (tgt := 68) (by decide) (by omega) (by omega) (fun c18 => ?_) (fun c18 => ?_)
              · refine z_iinc C dX1_favourite_68 4 rfl (by decide) (L' := [(0, _), (1, _), (2, _), (3, _), (4, _), (5, _), (6, _)]) rfl ?_
                refine z_goto C dX1_favourite_71 (tgt := 6) (by decide) ?_
                refine z_sub [0, 1, 2, 3, 4] rfl ?_; exact ih6 _ _ (by omega) (by omega) (by rw [sFavN_s v p s (by omega), ← h6_2]; exact (if_neg (by omega)).symm) (by omega)
              · refine z_iload C dX1_favourite_65 5 rfl ?_
                refine z_istore_n C dX1_favourite_67 (by decide) (L' := [(0, _), (1, _), (2, _), (3, _), (4, _), (5, _), (6, _)]) rfl ?_
                refine z_iinc C dX1_favourite_68 4 rfl (by decide) (L' := [(0, _), (1, _), (2, _), (3, _), (4, _), (5, _), (6, _)]) rfl ?_
                refine z_goto C dX1_favourite_71 (tgt := 6) (by decide) ?_
                refine z_sub [0, 1, 2, 3, 4] rfl ?_; exact ih6 _ _ (by omega) (by omega) (by rw [sFavN_s v p s (by omega), ← h6_2]; exact (if_pos (by omega)).symm) (by omega)
  exact LP6 _ (-9) 0 (by omega) (by omega) rfl (Nat.lt_succ_self _)
set_option maxHeartbeats 4000000 in
theorem c_X1_isLikedBefore (l : Launch) (μ : zM) (t : Nat) (ht : zTo t) (v : zVw) (hv : zT μ t v) (ho : vOK v) (q a b : Int) (ha : zU q a) (hb : zU q b) : zMi l yX1_isLikedBefore cX1_isLikedBefore 6 (.boolean) 1 22 [.inr t, .inl q, .inl a, .inl b] μ (fun (r : Int) (m : zM) => μ = m ∧ ((r = 1 ∧ (sBef v q a b)) ∨ (r = 0 ∧ ¬ (sBef v q a b)))) := by
  refine zMi_of (own := RX1) (by decide +kernel) rfl (Nat.le_of_ble_eq_true rfl) ?_
  intro X hX C hrm E
  subst hX
  show zJ X 6 μ 0 [(0, .inr t), (1, .inl q), (2, .inl a), (3, .inl b)] []
  obtain ⟨hv1, hv2, hv3, hv4, hv5, hv6, hv7⟩ := id hv
  obtain ⟨ho1, ho2, ho3, ho4, ho5, ho6, ho7⟩ := id ho
  have q1 := ho7 q a ha
  have q2 := ho7 q b hb
  refine z_aload_n C dX1_isLikedBefore_0 0 rfl ?_
  refine z_iload_n C dX1_isLikedBefore_1 1 rfl ?_
  refine z_iload_n C dX1_isLikedBefore_2 2 rfl ?_
  refine z_callVi C (c_X4_likes (zl X) μ t ht v hv ho q a (by omega)) yyX4_likes mlX1_49 (zRc_of (i := t) C (by have := zto_lt ht; omega) (zd_to0 ht) rfl) dX1_isLikedBefore_3 rfl rfl (Nat.le_of_ble_eq_true rfl) (by decide) (fun r1 m1 hr1 hp1 => ?_)
  obtain ⟨rfl, hp1⟩ := hp1
  rw [hp1]
  refine z_istore C dX1_isLikedBefore_6 (by decide) (L' := [(0, _), (1, _), (2, _), (3, _), (4, _)]) rfl ?_
  refine z_aload_n C dX1_isLikedBefore_8 0 rfl ?_
  refine z_iload_n C dX1_isLikedBefore_9 1 rfl ?_
  refine z_iload_n C dX1_isLikedBefore_10 3 rfl ?_
  refine z_callVi C (c_X4_likes (zl X) μ t ht v hv ho q b (by omega)) yyX4_likes mlX1_49 (zRc_of (i := t) C (by have := zto_lt ht; omega) (zd_to0 ht) rfl) dX1_isLikedBefore_11 rfl rfl (Nat.le_of_ble_eq_true rfl) (by decide) (fun r2 m2 hr2 hp2 => ?_)
  obtain ⟨rfl, hp2⟩ := hp2
  rw [hp2]
  refine z_istore C dX1_isLikedBefore_14 (by decide) (L' := [(0, _), (1, _), (2, _), (3, _), (4, _), (5, _)]) rfl ?_
  refine z_iload C dX1_isLikedBefore_16 4 rfl ?_
  refine z_iload C dX1_isLikedBefore_18 5 rfl ?_
  refine z_icmp_gt C dX1_isLikedBefore_20 (tgt := 35) (by decide) (by omega) (by omega) (fun c3 => ?_) (fun c3 => ?_)
  · refine z_iconst C dX1_isLikedBefore_35 ?_
    refine z_goto C dX1_isLikedBefore_36 (tgt := 40) (by decide) ?_
    exact E dX1_isLikedBefore_40 (by decide) (z_nb (Or.inr rfl)) ⟨rfl, Or.inl ⟨rfl, by omega⟩⟩
  · refine z_iload C dX1_isLikedBefore_23 4 rfl ?_
    refine z_iload C dX1_isLikedBefore_25 5 rfl ?_
    refine z_icmp_ne C dX1_isLikedBefore_27 (tgt := 39) (by decide) (by omega) (by omega) (fun c4 => ?_) (fun c4 => ?_)
    · refine z_iconst C dX1_isLikedBefore_39 ?_
      exact E dX1_isLikedBefore_40 (by decide) (z_nb (Or.inl rfl)) ⟨rfl, Or.inr ⟨rfl, by omega⟩⟩
    · refine z_iload_n C dX1_isLikedBefore_30 2 rfl ?_
      refine z_iload_n C dX1_isLikedBefore_31 3 rfl ?_
      refine z_icmp_ge C dX1_isLikedBefore_32 (tgt := 39) (by decide) (by omega) (by omega) (fun c5 => ?_) (fun c5 => ?_)
      · refine z_iconst C dX1_isLikedBefore_39 ?_
        exact E dX1_isLikedBefore_40 (by decide) (z_nb (Or.inl rfl)) ⟨rfl, Or.inr ⟨rfl, by omega⟩⟩
      · refine z_iconst C dX1_isLikedBefore_35 ?_
        refine z_goto C dX1_isLikedBefore_36 (tgt := 40) (by decide) ?_
        exact E dX1_isLikedBefore_40 (by decide) (z_nb (Or.inr rfl)) ⟨rfl, Or.inl ⟨rfl, by omega⟩⟩
set_option maxHeartbeats 4000000 in
theorem c_X1_likedMost (l : Launch) (μ : zM) (t : Nat) (ht : zTo t) (v : zVw) (hv : zT μ t v) (ho : vOK v) (p s n : Int) (hp : 0 ≤ p ∧ p < 10) (hs : 0 ≤ s ∧ s < 32) (hn : 0 ≤ n ∧ n ≤ 5) : zMi l yX1_likedMost cX1_likedMost 7 (.int) 2 48 [.inr t, .inl p, .inl s, .inl n] μ (fun (r : Int) (m : zM) => μ = m ∧ r = sLkN v p s n.toNat) := by
  refine zMi_of (own := RX1) (by decide +kernel) rfl (Nat.le_of_ble_eq_true rfl) ?_
  intro X hX C hrm E
  subst hX
  show zJ X 7 μ 0 [(0, .inr t), (1, .inl p), (2, .inl s), (3, .inl n)] []
  obtain ⟨hv1, hv2, hv3, hv4, hv5, hv6, hv7⟩ := id hv
  obtain ⟨ho1, ho2, ho3, ho4, ho5, ho6, ho7⟩ := id ho
  refine z_iconst C dX1_likedMost_0 ?_
  refine z_istore C dX1_likedMost_1 (by decide) (L' := [(0, _), (1, _), (2, _), (3, _), (4, _)]) rfl ?_
  refine z_iconst C dX1_likedMost_3 ?_
  refine z_istore C dX1_likedMost_4 (by decide) (L' := [(0, _), (1, _), (2, _), (3, _), (4, _), (5, _)]) rfl ?_
  have LP6 : ∀ (N6 : Nat) (c : Int) (i : Int), (0 ≤ i) → (i ≤ n) → (c = sLkN v p s i.toNat) → (5 - i).toNat < N6 → zJ X 7 μ 6 [(0, .inr t), (1, .inl p), (2, .inl s), (3, .inl n), (4, .inl c), (5, .inl i)] [] := by
    intro N6
    induction N6 with
    | zero => intro c i h6_0 h6_1 h6_2 hN; exact absurd hN (Nat.not_lt_zero _)
    | succ N6 ih6 =>
      intro c i h6_0 h6_1 h6_2 hN6
      have hc := sLkN_b v s hp i.toNat
      rw [← h6_2] at hc
      have hd := zandn_b s hs.1 hs.2 c hc.1 hc.2
      have hu := sFav_U v (zand s (zxor c (-1))) hp
      refine z_iload C dX1_likedMost_6 5 rfl ?_
      refine z_iload_n C dX1_likedMost_8 3 rfl ?_
      refine z_icmp_ge C dX1_likedMost_9 (tgt := 48) (by decide) (by omega) (by omega) (fun c1 => ?_) (fun c1 => ?_)
      · rw [show i = n by omega] at h6_2
        refine z_iload C dX1_likedMost_48 4 rfl ?_
        exact E dX1_likedMost_50 (by omega) rfl ⟨rfl, h6_2⟩
      · refine z_aload_n C dX1_likedMost_12 0 rfl ?_
        refine z_iload_n C dX1_likedMost_13 1 rfl ?_
        refine z_iload_n C dX1_likedMost_14 2 rfl ?_
        refine z_iload C dX1_likedMost_15 4 rfl ?_
        refine z_iconst C dX1_likedMost_17 ?_
        refine z_ixor C dX1_likedMost_18 ?_
        refine z_iand C dX1_likedMost_19 ?_
        refine z_callSi C (c_X1_favourite (zl X) μ t ht v hv ho p (zand s (zxor c (-1))) (by omega) (by omega)) yyX1_favourite mlX1_55 dX1_likedMost_20 rfl rfl (Nat.le_of_ble_eq_true rfl) (by decide) (fun r2 m2 hr2 hp2 => ?_)
        obtain ⟨rfl, hp2⟩ := hp2
        rw [hp2]
        refine z_istore C dX1_likedMost_23 (by decide) (L' := [(0, _), (1, _), (2, _), (3, _), (4, _), (5, _), (6, _)]) rfl ?_
        refine z_iload C dX1_likedMost_25 6 rfl ?_
        refine z_bipush C dX1_likedMost_27 (by decide) ?_
        refine z_icmp_eq C dX1_likedMost_29 (tgt := 42) (by decide) (by omega) (by decide) (fun c3 => ?_) (fun c3 => ?_)
        · refine z_iinc C dX1_likedMost_42 5 rfl (by decide) (L' := [(0, _), (1, _), (2, _), (3, _), (4, _), (5, _), (6, _)]) rfl ?_
          refine z_goto C dX1_likedMost_45 (tgt := 6) (by decide) ?_
          refine z_sub [0, 1, 2, 3, 4, 5] rfl ?_; exact ih6 _ _ (by omega) (by omega) (by rw [sLkN_s v p s (by omega), ← h6_2]; exact (if_pos (by omega)).symm) (by omega)
        · refine z_iload C dX1_likedMost_32 4 rfl ?_
          refine z_iload C dX1_likedMost_34 6 rfl ?_
          refine z_callNi C (c_X5_bitOf (zl X) μ (sFav v p (zand s (zxor c (-1)))) (by omega)) yyX5_bitOf (by decide +kernel) dX1_likedMost_36 rfl rfl (Nat.le_of_ble_eq_true rfl) (by decide) (fun r4 m4 hr4 hp4 => ?_)
          obtain ⟨rfl, hp4⟩ := hp4
          rw [hp4]
          refine z_ior C dX1_likedMost_39 ?_
          refine z_istore C dX1_likedMost_40 (by decide) (L' := [(0, _), (1, _), (2, _), (3, _), (4, _), (5, _), (6, _)]) rfl ?_
          refine z_iinc C dX1_likedMost_42 5 rfl (by decide) (L' := [(0, _), (1, _), (2, _), (3, _), (4, _), (5, _), (6, _)]) rfl ?_
          refine z_goto C dX1_likedMost_45 (tgt := 6) (by decide) ?_
          refine z_sub [0, 1, 2, 3, 4, 5] rfl ?_; exact ih6 _ _ (by omega) (by omega) (by rw [sLkN_s v p s (by omega), ← h6_2]; exact (if_neg (by omega)).symm) (by omega)
  exact LP6 _ 0 0 (by omega) (by omega) rfl (Nat.lt_succ_self _)
set_option maxHeartbeats 4000000 in
theorem c_X1_firstWhoWillAsk (l : Launch) (μ : zM) (σ : zAS) (hσ : zAs μ σ) (hB : zAb σ) : zMi l yX1_firstWhoWillAsk cX1_firstWhoWillAsk 2 (.int) 0 0 [.inr 22] μ (fun (r : Int) (m : zM) => μ = m ∧ r = sFst σ) := by
  refine zMi_of (own := RX1) (by decide +kernel) rfl (Nat.le_of_ble_eq_true rfl) ?_
  intro X hX C hrm E
  subst hX
  show zJ X 2 μ 0 [(0, .inr 22)] []
  refine z_iconst C dX1_firstWhoWillAsk_0 ?_
  refine z_istore_n C dX1_firstWhoWillAsk_1 (by decide) (L' := [(0, _), (1, _)]) rfl ?_
  have LP2 : ∀ (N2 : Nat) (i : Int), (0 ≤ i) → (i ≤ 10) → (sFst σ = sFstF σ (10 - i).toNat i) → (10 - i).toNat < N2 → zJ X 2 μ 2 [(0, .inr 22), (1, .inl i)] [] := by
    intro N2
    induction N2 with
    | zero => intro i h2_0 h2_1 h2_2 hN; exact absurd hN (Nat.not_lt_zero _)
    | succ N2 ih2 =>
      intro i h2_0 h2_1 h2_2 hN2
      refine z_iload_n C dX1_firstWhoWillAsk_2 1 rfl ?_
      refine z_bipush C dX1_firstWhoWillAsk_3 (by decide) ?_
      refine z_icmp_ge C dX1_firstWhoWillAsk_5 (tgt := 36) (by decide) (by omega) (by decide) (fun c1 => ?_) (fun c1 => ?_)
      · refine z_bipush C dX1_firstWhoWillAsk_36 (by decide) ?_
        exact E dX1_firstWhoWillAsk_38 (by decide) rfl ⟨rfl, (by rw [h2_2, show (10 - i).toNat = 0 by omega]; rfl)⟩
      · refine z_aload_n C dX1_firstWhoWillAsk_8 0 rfl ?_
        refine z_getR C ffX1_15 dX1_firstWhoWillAsk_9 (by decide) rfl rfl ?_
        refine z_iload_n C dX1_firstWhoWillAsk_12 1 rfl ?_
        refine z_iald C dX1_firstWhoWillAsk_13 (by decide) rfl (by omega) (by decide) (fun hr2 => ?_)
        rw [(hσ i (by omega) (by omega)).1]
        have hb := hB i (by omega) (by omega)
        refine z_bipush C dX1_firstWhoWillAsk_14 (by decide) ?_
        refine z_icmp_ne C dX1_firstWhoWillAsk_16 (tgt := 30) (by decide) (by omega) (by decide) (fun c3 => ?_) (fun c3 => ?_)
        · refine z_iinc C dX1_firstWhoWillAsk_30 1 rfl (by decide) (L' := [(0, _), (1, _)]) rfl ?_
          refine z_goto C dX1_firstWhoWillAsk_33 (tgt := 2) (by decide) ?_
          exact ih2 _ (by omega) (by omega) (by rw [h2_2, sFstF_s σ (by omega), if_neg (by omega)]) (by omega)
        · refine z_aload_n C dX1_firstWhoWillAsk_19 0 rfl ?_
          refine z_getR C ffX1_21 dX1_firstWhoWillAsk_20 (by decide) rfl rfl ?_
          refine z_iload_n C dX1_firstWhoWillAsk_23 1 rfl ?_
          refine z_iald C dX1_firstWhoWillAsk_24 (by decide) rfl (by omega) (by decide) (fun hr4 => ?_)
          rw [(hσ i (by omega) (by omega)).2]
          refine z_if_eq C dX1_firstWhoWillAsk_25 (tgt := 30) (by decide) (by omega) (fun c5 => ?_) (fun c5 => ?_)
          · refine z_iinc C dX1_firstWhoWillAsk_30 1 rfl (by decide) (L' := [(0, _), (1, _)]) rfl ?_
            refine z_goto C dX1_firstWhoWillAsk_33 (tgt := 2) (by decide) ?_
            exact ih2 _ (by omega) (by omega) (by rw [h2_2, sFstF_s σ (by omega), if_neg (by omega)]) (by omega)
          · refine z_iload_n C dX1_firstWhoWillAsk_28 1 rfl ?_
            exact E dX1_firstWhoWillAsk_29 (by omega) rfl ⟨rfl, (by rw [h2_2, sFstF_s σ (by omega), if_pos (by omega)])⟩
  exact LP2 _ 0 (by omega) (by omega) rfl (Nat.lt_succ_self _)
set_option maxHeartbeats 4000000 in
theorem c_X1_ask (l : Launch) (μ : zM) (t : Nat) (ht : zTo t) (v : zVw) (hv : zT μ t v) (ho : vOK v) (σ : zAS) (hσ : zAs μ σ) (hB : zAb σ) (a : Int) (ha : 0 ≤ a ∧ a < 10) : zMv l yX1_ask cX1_ask 5 2 48 [.inr 22, .inr t, .inl a] μ (fun (m : zM) => zAs m (sStp v σ a) ∧ ∀ x, x ≠ 24 → x ≠ 26 → m x = μ x) := by
  refine zMv_of (own := RX1) (by decide +kernel) rfl (Nat.le_of_ble_eq_true rfl) ?_
  intro X hX C hrm E
  subst hX
  show zJ X 5 μ 0 [(0, .inr 22), (1, .inr t), (2, .inl a)] []
  obtain ⟨hv1, hv2, hv3, hv4, hv5, hv6, hv7⟩ := id hv
  obtain ⟨ho1, ho2, ho3, ho4, ho5, ho6, ho7⟩ := id ho
  have hu := sFav_U v (σ.2 a) ha
  have ha2 := (hB a ha.1 ha.2).2
  obtain ⟨o, ho'⟩ : ∃ o, o = sFav v a (σ.2 a) := ⟨_, rfl⟩
  rw [← ho'] at hu
  refine z_aload_n C dX1_ask_0 1 rfl ?_
  refine z_iload_n C dX1_ask_1 2 rfl ?_
  refine z_aload_n C dX1_ask_2 0 rfl ?_
  refine z_getR C ffX1_21 dX1_ask_3 (by decide) rfl rfl ?_
  refine z_iload_n C dX1_ask_6 2 rfl ?_
  refine z_iald C dX1_ask_7 (by decide) rfl (by omega) (by decide) (fun hr1 => ?_)
  rw [(hσ a ha.1 ha.2).2]
  refine z_callSi C (c_X1_favourite (zl X) μ t ht v hv ho a (σ.2 a) (by omega) (by omega)) yyX1_favourite mlX1_55 dX1_ask_8 rfl rfl (Nat.le_of_ble_eq_true rfl) (by decide) (fun r2 m2 hr2 hp2 => ?_)
  obtain ⟨rfl, hp2⟩ := hp2
  rw [hp2, ← ho']
  refine z_istore_n C dX1_ask_11 (by decide) (L' := [(0, _), (1, _), (2, _), (3, _)]) rfl ?_
  refine z_iload_n C dX1_ask_12 3 rfl ?_
  refine z_bipush C dX1_ask_13 (by decide) ?_
  refine z_icmp_ne C dX1_ask_15 (tgt := 19) (by decide) (by omega) (by decide) (fun c3 => ?_) (fun c3 => ?_)
  · refine z_aload_n C dX1_ask_19 0 rfl ?_
    refine z_getR C ffX1_21 dX1_ask_20 (by decide) rfl rfl ?_
    refine z_iload_n C dX1_ask_23 2 rfl ?_
    refine z_dup2 C dX1_ask_24 ?_
    refine z_iald C dX1_ask_25 (by decide) rfl (by omega) (by decide) (fun hr4 => ?_)
    rw [(hσ a ha.1 ha.2).2]
    have hzd := zdel_b (σ.2 a) ha2.1 ha2.2 o (by omega) (by omega)
    refine z_iload_n C dX1_ask_26 3 rfl ?_
    refine z_callNi C (c_X5_bitOf (zl X) μ o (by omega)) yyX5_bitOf (by decide +kernel) dX1_ask_27 rfl rfl (Nat.le_of_ble_eq_true rfl) (by decide) (fun r5 m5 hr5 hp5 => ?_)
    obtain ⟨rfl, hp5⟩ := hp5
    rw [hp5]
    refine z_iconst C dX1_ask_30 ?_
    refine z_ixor C dX1_ask_31 ?_
    refine z_iand C dX1_ask_32 ?_
    refine z_iast C dX1_ask_33 (by decide) rfl (by omega) (by decide) (by omega) ?_
    refine z_mem (fun m6 em6 => ?_)
    refine z_aload_n C dX1_ask_34 0 rfl ?_
    refine z_getR C ffX1_15 dX1_ask_35 (by decide) rfl rfl ?_
    refine z_iload_n C dX1_ask_38 3 rfl ?_
    refine z_iald C dX1_ask_39 (by decide) rfl (by omega) (by decide) (fun hr7 => ?_)
    have hg : m6 24 o = σ.1 o := by rw [em6, zs_o _ _ (by omega)]; exact (hσ o (by omega) (by omega)).1
    rw [hg]
    have hbo := (hB o (by omega) (by omega)).1
    refine z_istore C dX1_ask_40 (by decide) (L' := [(0, _), (1, _), (2, _), (3, _), (4, _)]) rfl ?_
    refine z_iload C dX1_ask_42 4 rfl ?_
    refine z_bipush C dX1_ask_44 (by decide) ?_
    refine z_icmp_eq C dX1_ask_46 (tgt := 70) (by decide) (by omega) (by decide) (fun c8 => ?_) (fun c8 => ?_)
    · refine z_aload_n C dX1_ask_70 0 rfl ?_
      refine z_getR C ffX1_15 dX1_ask_71 (by decide) rfl rfl ?_
      refine z_iload_n C dX1_ask_74 3 rfl ?_
      refine z_iload_n C dX1_ask_75 2 rfl ?_
      refine z_iast C dX1_ask_76 (by decide) rfl (by omega) (by decide) (by omega) ?_
      refine z_mem (fun m9 em9 => ?_)
      refine z_aload_n C dX1_ask_77 0 rfl ?_
      refine z_getR C ffX1_15 dX1_ask_78 (by decide) rfl rfl ?_
      refine z_iload_n C dX1_ask_81 2 rfl ?_
      refine z_iload_n C dX1_ask_82 3 rfl ?_
      refine z_iast C dX1_ask_83 (by decide) rfl (by omega) (by decide) (by omega) ?_
      refine z_mem (fun m10 em10 => ?_)
      exact E dX1_ask_84 ⟨(by unfold sStp; rw [← ho'] ; rw [if_neg (by omega), if_neg (by omega)]; intro p p0 p1; exact ⟨(by rw [em10, zs_at, em9, zs_at, em6, zs_o _ _ (by omega)]; show _ = if p = a then _ else if p = o then a else if p = σ.1 o then -9 else σ.1 p; have g1 := (hσ p p0 p1).1; split <;> (try split) <;> (try split) <;> first | rfl | exact g1 | omega), (by rw [em10, zs_o _ _ (by omega), em9, zs_o _ _ (by omega), em6, zs_at]; show _ = if p = a then _ else σ.2 p; split <;> first | rfl | exact (hσ p p0 p1).2)⟩), (fun x x1 x2 => by rw [em10, zs_ne _ _ _ (by omega), em9, zs_ne _ _ _ (by omega), em6, zs_ne _ _ _ (by omega)])⟩
    · refine z_aload_n C dX1_ask_49 1 rfl ?_
      refine z_iload_n C dX1_ask_50 3 rfl ?_
      refine z_iload_n C dX1_ask_51 2 rfl ?_
      refine z_iload C dX1_ask_52 4 rfl ?_
      refine z_callSi C (c_X1_isLikedBefore (zl X) m6 t ht v (zT_fr hv (fun i i0 i1 => by rw [em6, zs_ne _ _ _ (by omega)])) ho o a (σ.1 o) (by omega) (by omega)) yyX1_isLikedBefore mlX1_79 dX1_ask_54 rfl rfl (Nat.le_of_ble_eq_true rfl) (by decide) (fun r11 m11 hr11 hp11 => ?_)
      obtain ⟨rfl, hp11⟩ := hp11
      rcases hp11 with ⟨rfl, hp11⟩ | ⟨rfl, hp11⟩
      · refine z_if_ne C dX1_ask_57 (tgt := 61) (by decide) (by decide) (fun _ => ?_) (fun c12 => (by exfalso; omega))
        refine z_aload_n C dX1_ask_61 0 rfl ?_
        refine z_getR C ffX1_15 dX1_ask_62 (by decide) rfl rfl ?_
        refine z_iload C dX1_ask_65 4 rfl ?_
        refine z_bipush C dX1_ask_67 (by decide) ?_
        refine z_iast C dX1_ask_69 (by decide) rfl (by omega) (by decide) (by decide) ?_
        refine z_mem (fun m13 em13 => ?_)
        refine z_aload_n C dX1_ask_70 0 rfl ?_
        refine z_getR C ffX1_15 dX1_ask_71 (by decide) rfl rfl ?_
        refine z_iload_n C dX1_ask_74 3 rfl ?_
        refine z_iload_n C dX1_ask_75 2 rfl ?_
        refine z_iast C dX1_ask_76 (by decide) rfl (by omega) (by decide) (by omega) ?_
        refine z_mem (fun m14 em14 => ?_)
        refine z_aload_n C dX1_ask_77 0 rfl ?_
        refine z_getR C ffX1_15 dX1_ask_78 (by decide) rfl rfl ?_
        refine z_iload_n C dX1_ask_81 2 rfl ?_
        refine z_iload_n C dX1_ask_82 3 rfl ?_
        refine z_iast C dX1_ask_83 (by decide) rfl (by omega) (by decide) (by omega) ?_
        refine z_mem (fun m15 em15 => ?_)
        exact E dX1_ask_84 ⟨(by unfold sStp; rw [← ho'] ; rw [if_neg (by omega), if_neg (by omega)]; intro p p0 p1; exact ⟨(by rw [em15, zs_at, em14, zs_at, em13, zs_at, em6, zs_o _ _ (by omega)]; show _ = if p = a then _ else if p = o then a else if p = σ.1 o then -9 else σ.1 p; have g1 := (hσ p p0 p1).1; split <;> (try split) <;> (try split) <;> first | rfl | exact g1 | omega), (by rw [em15, zs_o _ _ (by omega), em14, zs_o _ _ (by omega), em13, zs_o _ _ (by omega), em6, zs_at]; show _ = if p = a then _ else σ.2 p; split <;> first | rfl | exact (hσ p p0 p1).2)⟩), (fun x x1 x2 => by rw [em15, zs_ne _ _ _ (by omega), em14, zs_ne _ _ _ (by omega), em13, zs_ne _ _ _ (by omega), em6, zs_ne _ _ _ (by omega)])⟩
      · refine z_if_ne C dX1_ask_57 (tgt := 61) (by decide) (by decide) (fun c16 => (by exfalso; omega)) (fun _ => ?_)
        exact E dX1_ask_60 ⟨(by unfold sStp; rw [← ho']; rw [if_neg (by omega), if_pos (by omega)]; intro p p0 p1; exact ⟨(by rw [em6, zs_o _ _ (by omega)]; exact (hσ p p0 p1).1), (by rw [em6, zs_at]; show _ = if p = a then _ else σ.2 p; split <;> first | rfl | exact (hσ p p0 p1).2)⟩), (fun x x1 x2 => by rw [em6, zs_ne _ _ _ (by omega)])⟩
  · exact E dX1_ask_18 ⟨(by unfold sStp; rw [if_pos (by omega)]; exact hσ), (fun x x1 x2 => rfl)⟩
set_option maxHeartbeats 4000000 in
theorem c_X1_askInTurn (l : Launch) (μ : zM) (t : Nat) (ht : zTo t) (v : zVw) (hv : zT μ t v) (ho : vOK v) (s : Int) (hs : s = 0 ∨ s = 1) : zMv l yX1_askInTurn cX1_askInTurn 6 3 72 [.inr 22, .inr t, .inl s] μ (fun (m : zM) => zAs m (sIt v (sIn v s) 25) ∧ ∀ x, x ≠ 24 → x ≠ 26 → m x = μ x) := by
  refine zMv_of (own := RX1) (by decide +kernel) rfl (Nat.le_of_ble_eq_true rfl) ?_
  intro X hX C hrm E
  subst hX
  show zJ X 6 μ 0 [(0, .inr 22), (1, .inr t), (2, .inl s)] []
  obtain ⟨hv1, hv2, hv3, hv4, hv5, hv6, hv7⟩ := id hv
  obtain ⟨ho1, ho2, ho3, ho4, ho5, ho6, ho7⟩ := id ho
  refine z_iconst C dX1_askInTurn_0 ?_
  refine z_istore_n C dX1_askInTurn_1 (by decide) (L' := [(0, _), (1, _), (2, _), (3, _)]) rfl ?_
  have LP2 : ∀ (N2 : Nat) (i : Int) (ma : zM), (0 ≤ i) → (i ≤ 10) → (∀ x, x ≠ 24 → x ≠ 26 → ma x = μ x) → (∀ p, 0 ≤ p → p < i → ma 24 p = -9) → (∀ p, 0 ≤ p → p < i → ma 26 p = (sIn v s).2 p) → (10 - i).toNat < N2 → zJ X 6 ma 2 [(0, .inr 22), (1, .inr t), (2, .inl s), (3, .inl i)] [] := by
    intro N2
    induction N2 with
    | zero => intro i ma h2_0 h2_1 h2_2 h2_3 h2_4 hN; exact absurd hN (Nat.not_lt_zero _)
    | succ N2 ih2 =>
      intro i ma h2_0 h2_1 h2_2 h2_3 h2_4 hN2
      refine z_iload_n C dX1_askInTurn_2 3 rfl ?_
      refine z_bipush C dX1_askInTurn_3 (by decide) ?_
      refine z_icmp_ge C dX1_askInTurn_5 (tgt := 69) (by decide) (by omega) (by decide) (fun c1 => ?_) (fun c1 => ?_)
      · refine z_bipush C dX1_askInTurn_69 (by decide) ?_
        refine z_istore_n C dX1_askInTurn_71 (by decide) (L' := [(0, _), (1, _), (2, _), (3, _)]) rfl ?_
        refine z_iconst C dX1_askInTurn_72 ?_
        refine z_istore C dX1_askInTurn_73 (by decide) (L' := [(0, _), (1, _), (2, _), (3, _), (4, _)]) rfl ?_
        have LP75 : ∀ (N75 : Nat) (k : Int) (mb : zM), (0 ≤ k) → (k ≤ 25) → (∀ x, x ≠ 24 → x ≠ 26 → mb x = μ x) → (zAs mb (sIt v (sIn v s) k.toNat)) → (25 - k).toNat < N75 → zJ X 6 mb 75 [(0, .inr 22), (1, .inr t), (2, .inl s), (3, .inl 25), (4, .inl k)] [] := by
          intro N75
          induction N75 with
          | zero => intro k mb h75_0 h75_1 h75_2 h75_3 hN; exact absurd hN (Nat.not_lt_zero _)
          | succ N75 ih75 =>
            intro k mb h75_0 h75_1 h75_2 h75_3 hN75
            have hB := sIt_b (v := v) (sIn_b ho s) k.toNat
            have hF := sFst_U (sIt v (sIn v s) k.toNat)
            refine z_iload C dX1_askInTurn_75 4 rfl ?_
            refine z_iload_n C dX1_askInTurn_77 3 rfl ?_
            refine z_icmp_ge C dX1_askInTurn_78 (tgt := 108) (by decide) (by omega) (by decide) (fun c2 => ?_) (fun c2 => ?_)
            · exact E dX1_askInTurn_108 ⟨(by rw [show (25 : Nat) = k.toNat by omega]; exact h75_3), h75_2⟩
            · refine z_aload_n C dX1_askInTurn_81 0 rfl ?_
              refine z_callVi C (c_X1_firstWhoWillAsk (zl X) mb (sIt v (sIn v s) k.toNat) h75_3 hB) yyX1_firstWhoWillAsk mlX1_72 (zRc_of (i := 22) C (by decide) rfl rfl) dX1_askInTurn_82 rfl rfl (Nat.le_of_ble_eq_true rfl) (by decide) (fun r3 m3 hr3 hp3 => ?_)
              obtain ⟨rfl, hp3⟩ := hp3
              rw [hp3]
              refine z_istore C dX1_askInTurn_85 (by decide) (L' := [(0, _), (1, _), (2, _), (3, _), (4, _), (5, _)]) rfl ?_
              refine z_iload C dX1_askInTurn_87 5 rfl ?_
              refine z_bipush C dX1_askInTurn_89 (by decide) ?_
              refine z_icmp_ne C dX1_askInTurn_91 (tgt := 95) (by decide) (by omega) (by decide) (fun c4 => ?_) (fun c4 => ?_)
              · refine z_aload_n C dX1_askInTurn_95 0 rfl ?_
                refine z_aload_n C dX1_askInTurn_96 1 rfl ?_
                refine z_iload C dX1_askInTurn_97 5 rfl ?_
                refine z_callVv C (c_X1_ask (zl X) mb t ht v (zT_fr hv (fun x x0 x1 => h75_2 x (by omega) (by omega))) ho (sIt v (sIn v s) k.toNat) h75_3 hB (sFst (sIt v (sIn v s) k.toNat)) (by omega)) yyX1_ask mlX1_76 (zRc_of (i := 22) C (by decide) rfl rfl) dX1_askInTurn_99 rfl rfl (Nat.le_of_ble_eq_true rfl) (by decide) (fun m5 hp5 => ?_)
                refine z_iinc C dX1_askInTurn_102 4 rfl (by decide) (L' := [(0, _), (1, _), (2, _), (3, _), (4, _), (5, _)]) rfl ?_
                refine z_goto C dX1_askInTurn_105 (tgt := 75) (by decide) ?_
                refine z_sub [0, 1, 2, 3, 4] rfl ?_; exact ih75 _ m5 (by omega) (by omega) (fun x x1 x2 => by rw [hp5.2 x x1 x2]; exact h75_2 x x1 x2) (by rw [show (k + 1).toNat = k.toNat + 1 by omega, sIt, if_neg (by omega)]; exact hp5.1) (by omega)
              · exact E dX1_askInTurn_94 ⟨(by rw [show (25 : Nat) = k.toNat + (25 - k.toNat) by omega, sIt_stop (by omega)]; exact h75_3), h75_2⟩
        exact LP75 _ 0 ma (by omega) (by omega) h2_2 (fun p p0 p1 => ⟨h2_3 p p0 (by omega), h2_4 p p0 (by omega)⟩) (Nat.lt_succ_self _)
      · refine z_aload_n C dX1_askInTurn_8 0 rfl ?_
        refine z_getR C ffX1_15 dX1_askInTurn_9 (by decide) rfl rfl ?_
        refine z_iload_n C dX1_askInTurn_12 3 rfl ?_
        refine z_bipush C dX1_askInTurn_13 (by decide) ?_
        refine z_iast C dX1_askInTurn_15 (by decide) rfl (by omega) (by decide) (by decide) ?_
        refine z_mem (fun m6 em6 => ?_)
        refine z_aload_n C dX1_askInTurn_16 1 rfl ?_
        refine z_iload_n C dX1_askInTurn_17 3 rfl ?_
        refine z_callVi C (c_X4_isThere (zl X) m6 t ht v (zT_fr hv (fun x x0 x1 => by rw [em6, zs_ne _ _ _ (by omega)]; exact h2_2 x (by omega) (by omega))) ho i (by omega)) yyX4_isThere mlX1_62 (zRc_of (i := t) C (by have := zto_lt ht; omega) (zd_to0 ht) rfl) dX1_askInTurn_18 rfl rfl (Nat.le_of_ble_eq_true rfl) (by decide) (fun r7 m7 hr7 hp7 => ?_)
        obtain ⟨rfl, hp7⟩ := hp7
        rcases hp7 with ⟨rfl, hp7⟩ | ⟨rfl, hp7⟩
        · refine z_if_eq C dX1_askInTurn_21 (tgt := 36) (by decide) (by decide) (fun c8 => (by exfalso; omega)) (fun _ => ?_)
          refine z_iload_n C dX1_askInTurn_24 3 rfl ?_
          refine z_callNi C (c_X5_sideOf (zl X) m6 i (by omega)) yyX5_sideOf (by decide +kernel) dX1_askInTurn_25 rfl rfl (Nat.le_of_ble_eq_true rfl) (by decide) (fun r9 m9 hr9 hp9 => ?_)
          obtain ⟨rfl, hp9⟩ := hp9
          rcases hp9 with ⟨hp9, rfl⟩ | ⟨hp9, rfl⟩
          · refine z_iload_n C dX1_askInTurn_28 2 rfl ?_
            refine z_icmp_ne C dX1_askInTurn_29 (tgt := 36) (by decide) (by decide) (by omega) (fun c10 => ?_) (fun c10 => ?_)
            · refine z_iconst C dX1_askInTurn_36 ?_
              refine z_istore C dX1_askInTurn_37 (by decide) (L' := [(0, _), (1, _), (2, _), (3, _), (4, _)]) rfl ?_
              refine z_aload_n C dX1_askInTurn_39 0 rfl ?_
              refine z_getR C ffX1_21 dX1_askInTurn_40 (by decide) rfl rfl ?_
              refine z_iload_n C dX1_askInTurn_43 3 rfl ?_
              refine z_iload C dX1_askInTurn_44 4 rfl ?_
              refine z_if_eq C dX1_askInTurn_46 (tgt := 61) (by decide) (by decide) (fun _ => ?_) (fun c11 => (by exfalso; omega))
              refine z_iconst C dX1_askInTurn_61 ?_
              have hval : 0 = (sIn v s).2 i := by show _ = if _ then _ else _; first | exact (if_pos (by omega)).symm | exact (if_neg (by omega)).symm
              refine z_iast C dX1_askInTurn_62 (by decide) rfl (by omega) (by decide) (by decide) ?_
              refine z_mem (fun m12 em12 => ?_)
              refine z_iinc C dX1_askInTurn_63 3 rfl (by decide) (L' := [(0, _), (1, _), (2, _), (3, _), (4, _)]) rfl ?_
              refine z_goto C dX1_askInTurn_66 (tgt := 2) (by decide) ?_
              refine z_sub [0, 1, 2, 3] rfl ?_; exact ih2 _ m12 (by omega) (by omega) (fun x x1 x2 => by rw [em12, zs_ne _ _ _ (by omega), em6, zs_ne _ _ _ (by omega)]; exact h2_2 x x1 x2) (fun p p0 p1 => by rw [em12, zs_o _ _ (by omega), em6]; exact zs_upto h2_3 rfl p p0 p1) (fun p p0 p1 => by rw [em12]; exact zs_upto (m := m6) (fun p p0 p1 => by rw [em6, zs_o _ _ (by omega)]; exact h2_4 p p0 p1) hval p p0 p1) (by omega)
            · refine z_iconst C dX1_askInTurn_32 ?_
              refine z_goto C dX1_askInTurn_33 (tgt := 37) (by decide) ?_
              refine z_istore C dX1_askInTurn_37 (by decide) (L' := [(0, _), (1, _), (2, _), (3, _), (4, _)]) rfl ?_
              refine z_aload_n C dX1_askInTurn_39 0 rfl ?_
              refine z_getR C ffX1_21 dX1_askInTurn_40 (by decide) rfl rfl ?_
              refine z_iload_n C dX1_askInTurn_43 3 rfl ?_
              refine z_iload C dX1_askInTurn_44 4 rfl ?_
              refine z_if_eq C dX1_askInTurn_46 (tgt := 61) (by decide) (by decide) (fun c13 => (by exfalso; omega)) (fun _ => ?_)
              refine z_iconst C dX1_askInTurn_49 ?_
              refine z_aload_n C dX1_askInTurn_50 1 rfl ?_
              refine z_iload_n C dX1_askInTurn_51 3 rfl ?_
              refine z_callVi C (c_X4_howManyFacing (zl X) m6 t ht v (zT_fr hv (fun x x0 x1 => by rw [em6, zs_ne _ _ _ (by omega)]; exact h2_2 x (by omega) (by omega))) ho i (by omega)) yyX4_howManyFacing mlX1_69 (zRc_of (i := t) C (by have := zto_lt ht; omega) (zd_to0 ht) rfl) dX1_askInTurn_52 rfl rfl (Nat.le_of_ble_eq_true rfl) (by decide) (fun r14 m14 hr14 hp14 => ?_)
              obtain ⟨rfl, hp14⟩ := hp14
              rw [show r14 = (if i < 5 then vR v else vL v) by split <;> omega]
              have hzs := zshl_b (if i < 5 then vR v else vL v) (by split <;> omega) (by split <;> omega)
              refine z_ishl C dX1_askInTurn_55 ?_
              refine z_iconst C dX1_askInTurn_56 ?_
              refine z_isub C dX1_askInTurn_57 ?_
              refine z_goto C dX1_askInTurn_58 (tgt := 62) (by decide) ?_
              have hval : ((zshl 1 (if i < 5 then vR v else vL v)) - 1) = (sIn v s).2 i := by show _ = if _ then _ else _; first | exact (if_pos (by omega)).symm | exact (if_neg (by omega)).symm
              refine z_iast C dX1_askInTurn_62 (by decide) rfl (by omega) (by decide) (by omega) ?_
              refine z_mem (fun m15 em15 => ?_)
              refine z_iinc C dX1_askInTurn_63 3 rfl (by decide) (L' := [(0, _), (1, _), (2, _), (3, _), (4, _)]) rfl ?_
              refine z_goto C dX1_askInTurn_66 (tgt := 2) (by decide) ?_
              refine z_sub [0, 1, 2, 3] rfl ?_; exact ih2 _ m15 (by omega) (by omega) (fun x x1 x2 => by rw [em15, zs_ne _ _ _ (by omega), em6, zs_ne _ _ _ (by omega)]; exact h2_2 x x1 x2) (fun p p0 p1 => by rw [em15, zs_o _ _ (by omega), em6]; exact zs_upto h2_3 rfl p p0 p1) (fun p p0 p1 => by rw [em15]; exact zs_upto (m := m6) (fun p p0 p1 => by rw [em6, zs_o _ _ (by omega)]; exact h2_4 p p0 p1) hval p p0 p1) (by omega)
          · refine z_iload_n C dX1_askInTurn_28 2 rfl ?_
            refine z_icmp_ne C dX1_askInTurn_29 (tgt := 36) (by decide) (by decide) (by omega) (fun c16 => ?_) (fun c16 => ?_)
            · refine z_iconst C dX1_askInTurn_36 ?_
              refine z_istore C dX1_askInTurn_37 (by decide) (L' := [(0, _), (1, _), (2, _), (3, _), (4, _)]) rfl ?_
              refine z_aload_n C dX1_askInTurn_39 0 rfl ?_
              refine z_getR C ffX1_21 dX1_askInTurn_40 (by decide) rfl rfl ?_
              refine z_iload_n C dX1_askInTurn_43 3 rfl ?_
              refine z_iload C dX1_askInTurn_44 4 rfl ?_
              refine z_if_eq C dX1_askInTurn_46 (tgt := 61) (by decide) (by decide) (fun _ => ?_) (fun c17 => (by exfalso; omega))
              refine z_iconst C dX1_askInTurn_61 ?_
              have hval : 0 = (sIn v s).2 i := by show _ = if _ then _ else _; first | exact (if_pos (by omega)).symm | exact (if_neg (by omega)).symm
              refine z_iast C dX1_askInTurn_62 (by decide) rfl (by omega) (by decide) (by decide) ?_
              refine z_mem (fun m18 em18 => ?_)
              refine z_iinc C dX1_askInTurn_63 3 rfl (by decide) (L' := [(0, _), (1, _), (2, _), (3, _), (4, _)]) rfl ?_
              refine z_goto C dX1_askInTurn_66 (tgt := 2) (by decide) ?_
              refine z_sub [0, 1, 2, 3] rfl ?_; exact ih2 _ m18 (by omega) (by omega) (fun x x1 x2 => by rw [em18, zs_ne _ _ _ (by omega), em6, zs_ne _ _ _ (by omega)]; exact h2_2 x x1 x2) (fun p p0 p1 => by rw [em18, zs_o _ _ (by omega), em6]; exact zs_upto h2_3 rfl p p0 p1) (fun p p0 p1 => by rw [em18]; exact zs_upto (m := m6) (fun p p0 p1 => by rw [em6, zs_o _ _ (by omega)]; exact h2_4 p p0 p1) hval p p0 p1) (by omega)
            · refine z_iconst C dX1_askInTurn_32 ?_
              refine z_goto C dX1_askInTurn_33 (tgt := 37) (by decide) ?_
              refine z_istore C dX1_askInTurn_37 (by decide) (L' := [(0, _), (1, _), (2, _), (3, _), (4, _)]) rfl ?_
              refine z_aload_n C dX1_askInTurn_39 0 rfl ?_
              refine z_getR C ffX1_21 dX1_askInTurn_40 (by decide) rfl rfl ?_
              refine z_iload_n C dX1_askInTurn_43 3 rfl ?_
              refine z_iload C dX1_askInTurn_44 4 rfl ?_
              refine z_if_eq C dX1_askInTurn_46 (tgt := 61) (by decide) (by decide) (fun c19 => (by exfalso; omega)) (fun _ => ?_)
              refine z_iconst C dX1_askInTurn_49 ?_
              refine z_aload_n C dX1_askInTurn_50 1 rfl ?_
              refine z_iload_n C dX1_askInTurn_51 3 rfl ?_
              refine z_callVi C (c_X4_howManyFacing (zl X) m6 t ht v (zT_fr hv (fun x x0 x1 => by rw [em6, zs_ne _ _ _ (by omega)]; exact h2_2 x (by omega) (by omega))) ho i (by omega)) yyX4_howManyFacing mlX1_69 (zRc_of (i := t) C (by have := zto_lt ht; omega) (zd_to0 ht) rfl) dX1_askInTurn_52 rfl rfl (Nat.le_of_ble_eq_true rfl) (by decide) (fun r20 m20 hr20 hp20 => ?_)
              obtain ⟨rfl, hp20⟩ := hp20
              rw [show r20 = (if i < 5 then vR v else vL v) by split <;> omega]
              have hzs := zshl_b (if i < 5 then vR v else vL v) (by split <;> omega) (by split <;> omega)
              refine z_ishl C dX1_askInTurn_55 ?_
              refine z_iconst C dX1_askInTurn_56 ?_
              refine z_isub C dX1_askInTurn_57 ?_
              refine z_goto C dX1_askInTurn_58 (tgt := 62) (by decide) ?_
              have hval : ((zshl 1 (if i < 5 then vR v else vL v)) - 1) = (sIn v s).2 i := by show _ = if _ then _ else _; first | exact (if_pos (by omega)).symm | exact (if_neg (by omega)).symm
              refine z_iast C dX1_askInTurn_62 (by decide) rfl (by omega) (by decide) (by omega) ?_
              refine z_mem (fun m21 em21 => ?_)
              refine z_iinc C dX1_askInTurn_63 3 rfl (by decide) (L' := [(0, _), (1, _), (2, _), (3, _), (4, _)]) rfl ?_
              refine z_goto C dX1_askInTurn_66 (tgt := 2) (by decide) ?_
              refine z_sub [0, 1, 2, 3] rfl ?_; exact ih2 _ m21 (by omega) (by omega) (fun x x1 x2 => by rw [em21, zs_ne _ _ _ (by omega), em6, zs_ne _ _ _ (by omega)]; exact h2_2 x x1 x2) (fun p p0 p1 => by rw [em21, zs_o _ _ (by omega), em6]; exact zs_upto h2_3 rfl p p0 p1) (fun p p0 p1 => by rw [em21]; exact zs_upto (m := m6) (fun p p0 p1 => by rw [em6, zs_o _ _ (by omega)]; exact h2_4 p p0 p1) hval p p0 p1) (by omega)
        · refine z_if_eq C dX1_askInTurn_21 (tgt := 36) (by decide) (by decide) (fun _ => ?_) (fun c22 => (by exfalso; omega))
          refine z_iconst C dX1_askInTurn_36 ?_
          refine z_istore C dX1_askInTurn_37 (by decide) (L' := [(0, _), (1, _), (2, _), (3, _), (4, _)]) rfl ?_
          refine z_aload_n C dX1_askInTurn_39 0 rfl ?_
          refine z_getR C ffX1_21 dX1_askInTurn_40 (by decide) rfl rfl ?_
          refine z_iload_n C dX1_askInTurn_43 3 rfl ?_
          refine z_iload C dX1_askInTurn_44 4 rfl ?_
          refine z_if_eq C dX1_askInTurn_46 (tgt := 61) (by decide) (by decide) (fun _ => ?_) (fun c23 => (by exfalso; omega))
          refine z_iconst C dX1_askInTurn_61 ?_
          have hval : 0 = (sIn v s).2 i := by show _ = if _ then _ else _; first | exact (if_pos (by omega)).symm | exact (if_neg (by omega)).symm
          refine z_iast C dX1_askInTurn_62 (by decide) rfl (by omega) (by decide) (by decide) ?_
          refine z_mem (fun m24 em24 => ?_)
          refine z_iinc C dX1_askInTurn_63 3 rfl (by decide) (L' := [(0, _), (1, _), (2, _), (3, _), (4, _)]) rfl ?_
          refine z_goto C dX1_askInTurn_66 (tgt := 2) (by decide) ?_
          refine z_sub [0, 1, 2, 3] rfl ?_; exact ih2 _ m24 (by omega) (by omega) (fun x x1 x2 => by rw [em24, zs_ne _ _ _ (by omega), em6, zs_ne _ _ _ (by omega)]; exact h2_2 x x1 x2) (fun p p0 p1 => by rw [em24, zs_o _ _ (by omega), em6]; exact zs_upto h2_3 rfl p p0 p1) (fun p p0 p1 => by rw [em24]; exact zs_upto (m := m6) (fun p p0 p1 => by rw [em6, zs_o _ _ (by omega)]; exact h2_4 p p0 p1) hval p p0 p1) (by omega)
  exact LP2 _ 0 μ (by omega) (by omega) (fun _ _ _ => rfl) (fun p p0 p1 => by omega) (fun p p0 p1 => by omega) (Nat.lt_succ_self _)
