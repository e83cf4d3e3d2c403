/-! contracts: Holding -/
set_option maxHeartbeats 4000000 in
theorem c_X0_letAllGo (l : Launch) (μ : zM)  : zMv l yX0_letAllGo cX0_letAllGo 2 0 0 [.inr 27] μ (fun (m : zM) => (∀ p, 0 ≤ p → p < 10 → m 28 p = -9) ∧ ∀ x, x ≠ 28 → m x = μ x) := by
  refine zMv_of (own := RX0) (by decide +kernel) rfl (Nat.le_of_ble_eq_true rfl) ?_
  intro X hX C hrm E
  subst hX
  show zJ X 2 μ 0 [(0, .inr 27)] []
  refine z_iconst C dX0_letAllGo_0 ?_
  refine z_istore_n C dX0_letAllGo_1 (by decide) (L' := [(0, _), (1, _)]) rfl ?_
  have LP2 : ∀ (N2 : Nat) (i : Int) (ma : zM), (0 ≤ i) → (i ≤ 10) → (∀ p, 0 ≤ p → p < i → ma 28 p = -9) → (∀ x, x ≠ 28 → ma x = μ x) → (10 - i).toNat < N2 → zJ X 2 ma 2 [(0, .inr 27), (1, .inl i)] [] := by
    intro N2
    induction N2 with
    | zero => intro i ma h2_0 h2_1 h2_2 h2_3 hN; exact absurd hN (Nat.not_lt_zero _)
    | succ N2 ih2 =>
      intro i ma h2_0 h2_1 h2_2 h2_3 hN2
      refine z_iload_n C dX0_letAllGo_2 1 rfl ?_
      refine z_bipush C dX0_letAllGo_3 (by decide) ?_
      refine z_icmp_ge C dX0_letAllGo_5 (tgt := 22) (by decide) (by omega) (by decide) (fun c1 => ?_) (fun c1 => ?_)
      · exact E dX0_letAllGo_22 ⟨(fun p p0 p1 => h2_2 p p0 (by omega)), h2_3⟩
      · refine z_aload_n C dX0_letAllGo_8 0 rfl ?_
        refine z_getR C ffX0_9 dX0_letAllGo_9 (by decide) rfl rfl ?_
        refine z_iload_n C dX0_letAllGo_12 1 rfl ?_
        refine z_bipush C dX0_letAllGo_13 (by decide) ?_
        refine z_iast C dX0_letAllGo_15 (by decide) rfl (by omega) (by decide) (by decide) ?_
        refine z_mem (fun m2 em2 => ?_)
        refine z_iinc C dX0_letAllGo_16 1 rfl (by decide) (L' := [(0, _), (1, _)]) rfl ?_
        refine z_goto C dX0_letAllGo_19 (tgt := 2) (by decide) ?_
        exact ih2 _ m2 (by omega) (by omega) (fun p p0 p1 => by rw [em2]; exact zs_upto (f := fun _ => -9) h2_2 rfl p p0 p1) (fun x hx => by rw [em2, zs_ne _ _ _ hx]; exact h2_3 x hx) (by omega)
  exact LP2 _ 0 μ (by omega) (by omega) (fun p p0 p1 => by omega) (fun _ _ => rfl) (Nat.lt_succ_self _)
set_option maxHeartbeats 4000000 in
theorem c_X0_give (l : Launch) (μ : zM) (a b : Int) (ha : 0 ≤ a ∧ a < 10) (hb : 0 ≤ b ∧ b < 10) : zMi l yX0_give cX0_give 3 (.boolean) 0 0 [.inr 27, .inl a, .inl b] μ (fun (r : Int) (m : zM) => (r = 1 ∧ μ 28 b = -9 ∧ m = zs (zs μ 28 a b) 28 b a) ∨ (r = 0 ∧ ¬ μ 28 b = -9 ∧ m = μ)) := by
  refine zMi_of (own := RX0) (by decide +kernel) rfl (Nat.le_of_ble_eq_true rfl) ?_
  intro X hX C hrm E
  subst hX
  show zJ X 3 μ 0 [(0, .inr 27), (1, .inl a), (2, .inl b)] []
  refine z_aload_n C dX0_give_0 0 rfl ?_
  refine z_getR C ffX0_9 dX0_give_1 (by decide) rfl rfl ?_
  refine z_iload_n C dX0_give_4 2 rfl ?_
  refine z_iald C dX0_give_5 (by decide) rfl (by omega) (by decide) (fun hr1 => ?_)
  refine z_bipush C dX0_give_6 (by decide) ?_
  refine z_icmp_eq C dX0_give_8 (tgt := 13) (by decide) (by omega) (by decide) (fun c2 => ?_) (fun c2 => ?_)
  · refine z_aload_n C dX0_give_13 0 rfl ?_
    refine z_getR C ffX0_9 dX0_give_14 (by decide) rfl rfl ?_
    refine z_iload_n C dX0_give_17 1 rfl ?_
    refine z_iload_n C dX0_give_18 2 rfl ?_
    refine z_iast C dX0_give_19 (by decide) rfl (by omega) (by decide) (by omega) ?_
    refine z_mem (fun m3 em3 => ?_)
    refine z_aload_n C dX0_give_20 0 rfl ?_
    refine z_getR C ffX0_9 dX0_give_21 (by decide) rfl rfl ?_
    refine z_iload_n C dX0_give_24 2 rfl ?_
    refine z_iload_n C dX0_give_25 1 rfl ?_
    refine z_iast C dX0_give_26 (by decide) rfl (by omega) (by decide) (by omega) ?_
    refine z_mem (fun m4 em4 => ?_)
    refine z_iconst C dX0_give_27 ?_
    exact E dX0_give_28 (by decide) (z_nb (Or.inr rfl)) (Or.inl ⟨rfl, (by omega), (by rw [em4, em3])⟩)
  · refine z_iconst C dX0_give_11 ?_
    exact E dX0_give_12 (by decide) (z_nb (Or.inl rfl)) (Or.inr ⟨rfl, (by omega), rfl⟩)
set_option maxHeartbeats 4000000 in
theorem c_X0_wouldRather (l : Launch) (μ : zM) (t : Nat) (ht : zTo t) (v : zVw) (hv : zT μ t v) (ho : vOK v) (h : Int → Int) (hh : zHs μ h) (hb : zHb h) (p o : Int) (hpo : zU p o) : zMi l yX0_wouldRather cX0_wouldRather 4 (.boolean) 1 22 [.inr 27, .inr t, .inl p, .inl o] μ (fun (r : Int) (m : zM) => μ = m ∧ ((r = 1 ∧ (sWR v h p o)) ∨ (r = 0 ∧ ¬ (sWR v h p o)))) := by
  refine zMi_of (own := RX0) (by decide +kernel) rfl (Nat.le_of_ble_eq_true rfl) ?_
  intro X hX C hrm E
  subst hX
  show zJ X 4 μ 0 [(0, .inr 27), (1, .inr t), (2, .inl p), (3, .inl o)] []
  obtain ⟨hv1, hv2, hv3, hv4, hv5, hv6, hv7⟩ := id hv
  obtain ⟨ho1, ho2, ho3, ho4, ho5, ho6, ho7⟩ := id ho
  have hp := hb p (by omega) (by omega)
  have hhp := hh p (by omega) (by omega)
  have q1 := ho7 p o hpo
  refine z_aload_n C dX0_wouldRather_0 0 rfl ?_
  refine z_getR C ffX0_9 dX0_wouldRather_1 (by decide) rfl rfl ?_
  refine z_iload_n C dX0_wouldRather_4 2 rfl ?_
  refine z_iald C dX0_wouldRather_5 (by decide) rfl (by omega) (by decide) (fun hr1 => ?_)
  rw [hhp]
  refine z_bipush C dX0_wouldRather_6 (by decide) ?_
  refine z_icmp_eq C dX0_wouldRather_8 (tgt := 31) (by decide) (by omega) (by decide) (fun c2 => ?_) (fun c2 => ?_)
  · refine z_iconst C dX0_wouldRather_31 ?_
    refine z_goto C dX0_wouldRather_32 (tgt := 36) (by decide) ?_
    exact E dX0_wouldRather_36 (by decide) (z_nb (Or.inr rfl)) ⟨rfl, Or.inl ⟨rfl, by omega⟩⟩
  · refine z_aload_n C dX0_wouldRather_11 1 rfl ?_
    refine z_iload_n C dX0_wouldRather_12 2 rfl ?_
    refine z_iload_n C dX0_wouldRather_13 3 rfl ?_
    refine z_callVi C (c_X4_likes (zl X) μ t ht v hv ho p o (by omega)) yyX4_likes mlX0_42 (zRc_of (i := t) C (by have := zto_lt ht; omega) (zd_to0 ht) rfl) dX0_wouldRather_14 rfl rfl (Nat.le_of_ble_eq_true rfl) (by decide) (fun r3 m3 hr3 hp3 => ?_)
    obtain ⟨rfl, hp3⟩ := hp3
    rw [hp3]
    refine z_aload_n C dX0_wouldRather_17 1 rfl ?_
    refine z_iload_n C dX0_wouldRather_18 2 rfl ?_
    refine z_aload_n C dX0_wouldRather_19 0 rfl ?_
    refine z_getR C ffX0_9 dX0_wouldRather_20 (by decide) rfl rfl ?_
    refine z_iload_n C dX0_wouldRather_23 2 rfl ?_
    refine z_iald C dX0_wouldRather_24 (by decide) rfl (by omega) (by decide) (fun hr4 => ?_)
    rw [hhp]
    have q2 := ho7 p (h p) (by omega)
    refine z_callVi C (c_X4_likes (zl X) μ t ht v hv ho p (h p) (by omega)) yyX4_likes mlX0_42 (zRc_of (i := t) C (by have := zto_lt ht; omega) (zd_to0 ht) rfl) dX0_wouldRather_25 rfl rfl (Nat.le_of_ble_eq_true rfl) (by decide) (fun r5 m5 hr5 hp5 => ?_)
    obtain ⟨rfl, hp5⟩ := hp5
    rw [hp5]
    refine z_icmp_le C dX0_wouldRather_28 (tgt := 35) (by decide) (by omega) (by omega) (fun c6 => ?_) (fun c6 => ?_)
    · refine z_iconst C dX0_wouldRather_35 ?_
      exact E dX0_wouldRather_36 (by decide) (z_nb (Or.inl rfl)) ⟨rfl, Or.inr ⟨rfl, by omega⟩⟩
    · refine z_iconst C dX0_wouldRather_31 ?_
      refine z_goto C dX0_wouldRather_32 (tgt := 36) (by decide) ?_
      exact E dX0_wouldRather_36 (by decide) (z_nb (Or.inr rfl)) ⟨rfl, Or.inl ⟨rfl, by omega⟩⟩
set_option maxHeartbeats 4000000 in
theorem c_X0_firstWhoWouldRather (l : Launch) (μ : zM) (t : Nat) (ht : zTo t) (v : zVw) (hv : zT μ t v) (ho : vOK v) (h : Int → Int) (hh : zHs μ h) (hb : zHb h) : zMi l yX0_firstWhoWouldRather cX0_firstWhoWouldRather 5 (.int) 2 45 [.inr 27, .inr t] μ (fun (r : Int) (m : zM) => μ = m ∧ r = sFw v h) := by
  refine zMi_of (own := RX0) (by decide +kernel) rfl (Nat.le_of_ble_eq_true rfl) ?_
  intro X hX C hrm E
  subst hX
  show zJ X 5 μ 0 [(0, .inr 27), (1, .inr t)] []
  obtain ⟨hv1, hv2, hv3, hv4, hv5, hv6, hv7⟩ := id hv
  obtain ⟨ho1, ho2, ho3, ho4, ho5, ho6, ho7⟩ := id ho
  refine z_iconst C dX0_firstWhoWouldRather_0 ?_
  refine z_istore_n C dX0_firstWhoWouldRather_1 (by decide) (L' := [(0, _), (1, _), (2, _)]) rfl ?_
  have LP2 : ∀ (N2 : Nat) (a : Int), (0 ≤ a) → (a ≤ vL v) → (sFw v h = sFwL v h (vL v - a).toNat a) → (5 - a).toNat < N2 → zJ X 5 μ 2 [(0, .inr 27), (1, .inr t), (2, .inl a)] [] := by
    intro N2
    induction N2 with
    | zero => intro a h2_0 h2_1 h2_2 hN; exact absurd hN (Nat.not_lt_zero _)
    | succ N2 ih2 =>
      intro a h2_0 h2_1 h2_2 hN2
      refine z_iload_n C dX0_firstWhoWouldRather_2 2 rfl ?_
      refine z_aload_n C dX0_firstWhoWouldRather_3 1 rfl ?_
      refine z_getR C ffX0_15 dX0_firstWhoWouldRather_4 (by have := zto_lt ht; omega) (zd_to0 ht) rfl ?_
      refine z_iconst C dX0_firstWhoWouldRather_7 ?_
      refine z_iald C dX0_firstWhoWouldRather_8 (by have := zto_lt ht; omega) (zd_to1 ht) (by decide) (by decide) (fun hr1 => ?_)
      rw [hv1]
      refine z_icmp_ge C dX0_firstWhoWouldRather_9 (tgt := 70) (by decide) (by omega) (by omega) (fun c2 => ?_) (fun c2 => ?_)
      · refine z_bipush C dX0_firstWhoWouldRather_70 (by decide) ?_
        exact E dX0_firstWhoWouldRather_72 (by decide) rfl ⟨rfl, (by rw [h2_2, show (vL v - a).toNat = 0 by omega]; rfl)⟩
      · refine z_iconst C dX0_firstWhoWouldRather_12 ?_
        refine z_istore_n C dX0_firstWhoWouldRather_13 (by decide) (L' := [(0, _), (1, _), (2, _), (3, _)]) rfl ?_
        have LP14 : ∀ (N14 : Nat) (b : Int), (0 ≤ b) → (b ≤ vR v) → (sFwR v h a (vR v).toNat 0 = sFwR v h a (vR v - b).toNat b) → (5 - b).toNat < N14 → zJ X 5 μ 14 [(0, .inr 27), (1, .inr t), (2, .inl a), (3, .inl b)] [] := by
          intro N14
          induction N14 with
          | zero => intro b h14_0 h14_1 h14_2 hN; exact absurd hN (Nat.not_lt_zero _)
          | succ N14 ih14 =>
            intro b h14_0 h14_1 h14_2 hN14
            refine z_iload_n C dX0_firstWhoWouldRather_14 3 rfl ?_
            refine z_aload_n C dX0_firstWhoWouldRather_15 1 rfl ?_
            refine z_getR C ffX0_15 dX0_firstWhoWouldRather_16 (by have := zto_lt ht; omega) (zd_to0 ht) rfl ?_
            refine z_iconst C dX0_firstWhoWouldRather_19 ?_
            refine z_iald C dX0_firstWhoWouldRather_20 (by have := zto_lt ht; omega) (zd_to1 ht) (by decide) (by decide) (fun hr3 => ?_)
            rw [hv2]
            refine z_icmp_ge C dX0_firstWhoWouldRather_21 (tgt := 64) (by decide) (by omega) (by omega) (fun c4 => ?_) (fun c4 => ?_)
            · refine z_iinc C dX0_firstWhoWouldRather_64 2 rfl (by decide) (L' := [(0, _), (1, _), (2, _), (3, _)]) rfl ?_
              refine z_goto C dX0_firstWhoWouldRather_67 (tgt := 2) (by decide) ?_
              refine z_sub [0, 1, 2] rfl ?_; exact ih2 _ (by omega) (by omega) (by rw [h2_2, sFwL_s v h (by omega), if_pos (by rw [h14_2, show (vR v - b).toNat = 0 by omega]; rfl)]) (by omega)
            · refine z_iconst C dX0_firstWhoWouldRather_24 ?_
              refine z_iload_n C dX0_firstWhoWouldRather_25 3 rfl ?_
              refine z_iadd C dX0_firstWhoWouldRather_26 ?_
              refine z_istore C dX0_firstWhoWouldRather_27 (by decide) (L' := [(0, _), (1, _), (2, _), (3, _), (4, _)]) rfl ?_
              refine z_aload_n C dX0_firstWhoWouldRather_29 0 rfl ?_
              refine z_aload_n C dX0_firstWhoWouldRather_30 1 rfl ?_
              refine z_iload_n C dX0_firstWhoWouldRather_31 2 rfl ?_
              refine z_iload C dX0_firstWhoWouldRather_32 4 rfl ?_
              refine z_callVi C (c_X0_wouldRather (zl X) μ t ht v hv ho h hh hb a (5 + b) (by omega)) yyX0_wouldRather mlX0_39 (zRc_of (i := 27) C (by decide) rfl rfl) dX0_firstWhoWouldRather_34 rfl rfl (Nat.le_of_ble_eq_true rfl) (by decide) (fun r5 m5 hr5 hp5 => ?_)
              obtain ⟨rfl, hp5⟩ := hp5
              rcases hp5 with ⟨rfl, hp5⟩ | ⟨rfl, hp5⟩
              · refine z_if_eq C dX0_firstWhoWouldRather_37 (tgt := 58) (by decide) (by decide) (fun c6 => (by exfalso; omega)) (fun _ => ?_)
                refine z_aload_n C dX0_firstWhoWouldRather_40 0 rfl ?_
                refine z_aload_n C dX0_firstWhoWouldRather_41 1 rfl ?_
                refine z_iload C dX0_firstWhoWouldRather_42 4 rfl ?_
                refine z_iload_n C dX0_firstWhoWouldRather_44 2 rfl ?_
                refine z_callVi C (c_X0_wouldRather (zl X) μ t ht v hv ho h hh hb (5 + b) a (by omega)) yyX0_wouldRather mlX0_39 (zRc_of (i := 27) C (by decide) rfl rfl) dX0_firstWhoWouldRather_45 rfl rfl (Nat.le_of_ble_eq_true rfl) (by decide) (fun r7 m7 hr7 hp7 => ?_)
                obtain ⟨rfl, hp7⟩ := hp7
                rcases hp7 with ⟨rfl, hp7⟩ | ⟨rfl, hp7⟩
                · refine z_if_eq C dX0_firstWhoWouldRather_48 (tgt := 58) (by decide) (by decide) (fun c8 => (by exfalso; omega)) (fun _ => ?_)
                  refine z_bipush C dX0_firstWhoWouldRather_51 (by decide) ?_
                  refine z_iload_n C dX0_firstWhoWouldRather_53 2 rfl ?_
                  refine z_imul C dX0_firstWhoWouldRather_54 ?_
                  refine z_iload_n C dX0_firstWhoWouldRather_55 3 rfl ?_
                  refine z_iadd C dX0_firstWhoWouldRather_56 ?_
                  exact E dX0_firstWhoWouldRather_57 (by omega) rfl ⟨rfl, (by have e : sFwR v h a (vR v).toNat 0 = 10 * a + b := (by rw [h14_2, sFwR_s v h a (by omega), if_pos (by omega)]); rw [h2_2, sFwL_s v h (by omega), if_neg (by omega), e])⟩
                · refine z_if_eq C dX0_firstWhoWouldRather_48 (tgt := 58) (by decide) (by decide) (fun _ => ?_) (fun c9 => (by exfalso; omega))
                  refine z_iinc C dX0_firstWhoWouldRather_58 3 rfl (by decide) (L' := [(0, _), (1, _), (2, _), (3, _), (4, _)]) rfl ?_
                  refine z_goto C dX0_firstWhoWouldRather_61 (tgt := 14) (by decide) ?_
                  refine z_sub [0, 1, 2, 3] rfl ?_; exact ih14 _ (by omega) (by omega) (by rw [h14_2, sFwR_s v h a (by omega), if_neg (by omega)]) (by omega)
              · refine z_if_eq C dX0_firstWhoWouldRather_37 (tgt := 58) (by decide) (by decide) (fun _ => ?_) (fun c10 => (by exfalso; omega))
                refine z_iinc C dX0_firstWhoWouldRather_58 3 rfl (by decide) (L' := [(0, _), (1, _), (2, _), (3, _), (4, _)]) rfl ?_
                refine z_goto C dX0_firstWhoWouldRather_61 (tgt := 14) (by decide) ?_
                refine z_sub [0, 1, 2, 3] rfl ?_; exact ih14 _ (by omega) (by omega) (by rw [h14_2, sFwR_s v h a (by omega), if_neg (by omega)]) (by omega)
        exact LP14 _ 0 (by omega) (by omega) (by rw [Int.sub_zero]) (Nat.lt_succ_self _)
  exact LP2 _ 0 (by omega) (by omega) (by rw [Int.sub_zero]; rfl) (Nat.lt_succ_self _)
set_option maxHeartbeats 4000000 in
theorem c_X0_giveByCode (l : Launch) (μ : zM) (t : Nat) (ht : zTo t) (v : zVw) (hv : zT μ t v) (ho : vOK v) (s c : Int) (hs : s = 0 ∨ s = 1) (hc : 0 ≤ c ∧ c < 100000) (hle : vC v s ≤ vC v (1 - s)) : zMi l yX0_giveByCode cX0_giveByCode 8 (.boolean) 1 22 [.inr 27, .inr t, .inl s, .inl c] μ (fun (r : Int) (m : zM) => (r = 1 ∧ sOk v s c = true ∧ zHs m (sHas v s c) ∧ ∀ x, x ≠ 28 → m x = μ x) ∨ (r = 0 ∧ sOk v s c = false ∧ ∀ x, x ≠ 28 → m x = μ x)) := by
  refine zMi_of (own := RX0) (by decide +kernel) rfl (Nat.le_of_ble_eq_true rfl) ?_
  intro X hX C hrm E
  subst hX
  show zJ X 8 μ 0 [(0, .inr 27), (1, .inr t), (2, .inl s), (3, .inl c)] []
  obtain ⟨hv1, hv2, hv3, hv4, hv5, hv6, hv7⟩ := id hv
  obtain ⟨ho1, ho2, ho3, ho4, ho5, ho6, ho7⟩ := id ho
  have hC := vC_eq hv hs
  have hCb := vC_b ho s
  have hCb2 := vC_b ho (1 - s)
  refine z_aload_n C dX0_giveByCode_0 0 rfl ?_
  refine z_callVv C (c_X0_letAllGo (zl X) μ) yyX0_letAllGo mlX0_28 (zRc_of (i := 27) C (by decide) rfl rfl) dX0_giveByCode_1 rfl rfl (Nat.le_of_ble_eq_true rfl) (by decide) (fun m1 hp1 => ?_)
  refine z_aload_n C dX0_giveByCode_4 1 rfl ?_
  refine z_getR C ffX0_15 dX0_giveByCode_5 (by have := zto_lt ht; omega) (zd_to0 ht) rfl ?_
  refine z_iconst C dX0_giveByCode_8 ?_
  refine z_iload_n C dX0_giveByCode_9 2 rfl ?_
  refine z_isub C dX0_giveByCode_10 ?_
  refine z_iald C dX0_giveByCode_11 (by have := zto_lt ht; omega) (zd_to1 ht) (by omega) (by decide) (fun hr2 => ?_)
  have hx1 : m1 (t + 1) (1 - s) = vC v (1 - s) := by rw [hp1.2 _ (by omega)]; exact hC.2
  rw [hx1]
  refine z_istore C dX0_giveByCode_12 (by decide) (L' := [(0, _), (1, _), (2, _), (3, _), (4, _)]) rfl ?_
  refine z_iload_n C dX0_giveByCode_14 3 rfl ?_
  refine z_istore C dX0_giveByCode_15 (by decide) (L' := [(0, _), (1, _), (2, _), (3, _), (4, _), (5, _)]) rfl ?_
  refine z_iconst C dX0_giveByCode_17 ?_
  refine z_istore C dX0_giveByCode_18 (by decide) (L' := [(0, _), (1, _), (2, _), (3, _), (4, _), (5, _), (6, _)]) rfl ?_
  have LP20 : ∀ (N20 : Nat) (z : Int) (i : Int) (ma : zM), (0 ≤ i) → (i ≤ vC v s) → (∀ x, x ≠ 28 → ma x = μ x) → ((sGv v s c i.toNat).1 = true) → (z = (sGv v s c i.toNat).2.1) → (zHs ma (sGv v s c i.toNat).2.2) → (0 ≤ z) → (z < 100000) → (5 - i).toNat < N20 → zJ X 8 ma 20 [(0, .inr 27), (1, .inr t), (2, .inl s), (3, .inl c), (4, .inl (vC v (1 - s))), (5, .inl z), (6, .inl i)] [] := by
    intro N20
    induction N20 with
    | zero => intro z i ma h20_0 h20_1 h20_2 h20_3 h20_4 h20_5 h20_6 h20_7 hN; exact absurd hN (Nat.not_lt_zero _)
    | succ N20 ih20 =>
      intro z i ma h20_0 h20_1 h20_2 h20_3 h20_4 h20_5 h20_6 h20_7 hN20
      refine z_iload C dX0_giveByCode_20 6 rfl ?_
      refine z_aload_n C dX0_giveByCode_22 1 rfl ?_
      refine z_getR C ffX0_15 dX0_giveByCode_23 (by have := zto_lt ht; omega) (zd_to0 ht) rfl ?_
      refine z_iload_n C dX0_giveByCode_26 2 rfl ?_
      refine z_iald C dX0_giveByCode_27 (by have := zto_lt ht; omega) (zd_to1 ht) (by omega) (by decide) (fun hr3 => ?_)
      have hx2 : ma (t + 1) s = vC v s := by rw [h20_2 _ (by omega)]; exact hC.1
      rw [hx2]
      refine z_icmp_ge C dX0_giveByCode_28 (tgt := 82) (by decide) (by omega) (by omega) (fun c4 => ?_) (fun c4 => ?_)
      · refine z_iconst C dX0_giveByCode_82 ?_
        exact E dX0_giveByCode_83 (by decide) (z_nb (Or.inr rfl)) (Or.inl ⟨rfl, (by unfold sOk; rw [show vC v s = i by omega]; exact h20_3), (by unfold sHas; rw [show vC v s = i by omega]; exact h20_5), h20_2⟩)
      · refine z_iload C dX0_giveByCode_31 4 rfl ?_
        refine z_iconst C dX0_giveByCode_33 ?_
        refine z_icmp_ge C dX0_giveByCode_34 (tgt := 39) (by decide) (by omega) (by decide) (fun _ => ?_) (fun c5 => (by exfalso; omega))
        refine z_iload_n C dX0_giveByCode_39 2 rfl ?_
        refine z_iconst C dX0_giveByCode_40 ?_
        refine z_imul C dX0_giveByCode_41 ?_
        refine z_iload C dX0_giveByCode_42 6 rfl ?_
        refine z_iadd C dX0_giveByCode_44 ?_
        refine z_istore C dX0_giveByCode_45 (by decide) (L' := [(0, _), (1, _), (2, _), (3, _), (4, _), (5, _), (6, _), (7, _)]) rfl ?_
        refine z_aload_n C dX0_giveByCode_47 0 rfl ?_
        refine z_iload C dX0_giveByCode_48 7 rfl ?_
        refine z_iload C dX0_giveByCode_50 7 rfl ?_
        refine z_callNi C (c_X5_otherStart (zl X) ma ((s * 5) + i) (by rcases hs with rfl | rfl <;> omega)) yyX5_otherStart (by decide +kernel) dX0_giveByCode_52 rfl rfl (Nat.le_of_ble_eq_true rfl) (by decide) (fun r6 m6 hr6 hp6 => ?_)
        obtain ⟨rfl, hp6⟩ := hp6
        rcases hp6 with ⟨hp6, rfl⟩ | ⟨hp6, rfl⟩
        · refine z_iload C dX0_giveByCode_55 5 rfl ?_
          refine z_iload C dX0_giveByCode_57 4 rfl ?_
          refine z_irem C dX0_giveByCode_59 (by omega) ?_
          refine z_iadd C dX0_giveByCode_60 ?_
          have hmd := zmodb (x := z) (n := vC v (1 - s)) (by omega)
          have eo : (5 + (z % (vC v (1 - s)))) = sOth (s * 5 + i) (z % vC v (1 - s)) := by unfold sOth; split <;> omega
          rw [eo]
          have ob : zU (s * 5 + i) (sOth (s * 5 + i) (z % vC v (1 - s))) := by rcases hs with rfl | rfl <;> omega
          refine z_callVi C (c_X0_give (zl X) ma ((s * 5) + i) (sOth (s * 5 + i) (z % vC v (1 - s))) (by rcases hs with rfl | rfl <;> omega) (by omega)) yyX0_give mlX0_35 (zRc_of (i := 27) C (by decide) rfl rfl) dX0_giveByCode_61 rfl rfl (Nat.le_of_ble_eq_true rfl) (by decide) (fun r7 m7 hr7 hp7 => ?_)
          rcases hp7 with ⟨rfl, hp7⟩ | ⟨rfl, hp7⟩
          · have hg := hp7
            have hpo := h20_5 (sOth (s * 5 + i) (z % vC v (1 - s))) (by omega) (by omega)
            refine z_if_ne C dX0_giveByCode_64 (tgt := 69) (by decide) (by decide) (fun _ => ?_) (fun c8 => (by exfalso; omega))
            have hst : sGv v s c (i + 1).toNat = (true, (sGv v s c i.toNat).2.1 / vC v (1 - s), fun x => if x = sOth (s * 5 + i) ((sGv v s c i.toNat).2.1 % vC v (1 - s)) then s * 5 + i else if x = s * 5 + i then sOth (s * 5 + i) ((sGv v s c i.toNat).2.1 % vC v (1 - s)) else (sGv v s c i.toNat).2.2 x) := by rw [sGv_s v s c (by omega), if_pos ⟨h20_3, by rw [← h20_4, ← hpo]; exact hg.1⟩]
            have hdv : 0 ≤ z / vC v (1 - s) ∧ z / vC v (1 - s) < 100000 := ⟨Int.ediv_nonneg h20_6 (by omega), Int.lt_of_le_of_lt (Int.ediv_le_self _ h20_6) h20_7⟩
            refine z_iload C dX0_giveByCode_69 5 rfl ?_
            refine z_iload C dX0_giveByCode_71 4 rfl ?_
            refine z_idiv C dX0_giveByCode_73 (by omega) ?_
            refine z_istore C dX0_giveByCode_74 (by decide) (L' := [(0, _), (1, _), (2, _), (3, _), (4, _), (5, _), (6, _), (7, _)]) rfl ?_
            refine z_iinc C dX0_giveByCode_76 6 rfl (by decide) (L' := [(0, _), (1, _), (2, _), (3, _), (4, _), (5, _), (6, _), (7, _)]) rfl ?_
            refine z_goto C dX0_giveByCode_79 (tgt := 20) (by decide) ?_
            refine z_sub [0, 1, 2, 3, 4, 5, 6] rfl ?_; exact ih20 _ _ m7 (by omega) (by omega) (fun x hx => by rw [hg.2, zs_ne _ _ _ hx, zs_ne _ _ _ hx]; exact h20_2 x hx) (by rw [hst]) (by rw [hst]; show z / _ = (sGv v s c i.toNat).2.1 / _; rw [h20_4]) (by rw [hst]; intro p p0 p1; rw [hg.2, zs_at, zs_at]; show _ = if p = sOth (s * 5 + i) ((sGv v s c i.toNat).2.1 % vC v (1 - s)) then s * 5 + i else if p = s * 5 + i then sOth (s * 5 + i) ((sGv v s c i.toNat).2.1 % vC v (1 - s)) else (sGv v s c i.toNat).2.2 p; rw [← h20_4, ← h20_5 p p0 p1]) hdv.1 hdv.2 (by omega)
          · have hg := hp7
            have hpo := h20_5 (sOth (s * 5 + i) (z % vC v (1 - s))) (by omega) (by omega)
            refine z_if_ne C dX0_giveByCode_64 (tgt := 69) (by decide) (by decide) (fun c9 => (by exfalso; omega)) (fun _ => ?_)
            have hno : (sGv v s c (i + 1).toNat).1 = false := by rw [sGv_s v s c (by omega), if_neg (fun q => hg.1 (by rw [hpo, h20_4]; exact q.2))]
            refine z_iconst C dX0_giveByCode_67 ?_
            exact E dX0_giveByCode_68 (by decide) (z_nb (Or.inl rfl)) (Or.inr ⟨rfl, (by unfold sOk; rw [show (vC v s).toNat = (i + 1).toNat + (vC v s - (i + 1)).toNat by omega]; exact sGv_no v s c hno _), (fun x hx => by rw [hg.2]; exact h20_2 x hx)⟩)
        · refine z_iload C dX0_giveByCode_55 5 rfl ?_
          refine z_iload C dX0_giveByCode_57 4 rfl ?_
          refine z_irem C dX0_giveByCode_59 (by omega) ?_
          refine z_iadd C dX0_giveByCode_60 ?_
          have hmd := zmodb (x := z) (n := vC v (1 - s)) (by omega)
          have eo : (0 + (z % (vC v (1 - s)))) = sOth (s * 5 + i) (z % vC v (1 - s)) := by unfold sOth; split <;> omega
          rw [eo]
          have ob : zU (s * 5 + i) (sOth (s * 5 + i) (z % vC v (1 - s))) := by rcases hs with rfl | rfl <;> omega
          refine z_callVi C (c_X0_give (zl X) ma ((s * 5) + i) (sOth (s * 5 + i) (z % vC v (1 - s))) (by rcases hs with rfl | rfl <;> omega) (by omega)) yyX0_give mlX0_35 (zRc_of (i := 27) C (by decide) rfl rfl) dX0_giveByCode_61 rfl rfl (Nat.le_of_ble_eq_true rfl) (by decide) (fun r10 m10 hr10 hp10 => ?_)
          rcases hp10 with ⟨rfl, hp10⟩ | ⟨rfl, hp10⟩
          · have hg := hp10
            have hpo := h20_5 (sOth (s * 5 + i) (z % vC v (1 - s))) (by omega) (by omega)
            refine z_if_ne C dX0_giveByCode_64 (tgt := 69) (by decide) (by decide) (fun _ => ?_) (fun c11 => (by exfalso; omega))
            have hst : sGv v s c (i + 1).toNat = (true, (sGv v s c i.toNat).2.1 / vC v (1 - s), fun x => if x = sOth (s * 5 + i) ((sGv v s c i.toNat).2.1 % vC v (1 - s)) then s * 5 + i else if x = s * 5 + i then sOth (s * 5 + i) ((sGv v s c i.toNat).2.1 % vC v (1 - s)) else (sGv v s c i.toNat).2.2 x) := by rw [sGv_s v s c (by omega), if_pos ⟨h20_3, by rw [← h20_4, ← hpo]; exact hg.1⟩]
            have hdv : 0 ≤ z / vC v (1 - s) ∧ z / vC v (1 - s) < 100000 := ⟨Int.ediv_nonneg h20_6 (by omega), Int.lt_of_le_of_lt (Int.ediv_le_self _ h20_6) h20_7⟩
            refine z_iload C dX0_giveByCode_69 5 rfl ?_
            refine z_iload C dX0_giveByCode_71 4 rfl ?_
            refine z_idiv C dX0_giveByCode_73 (by omega) ?_
            refine z_istore C dX0_giveByCode_74 (by decide) (L' := [(0, _), (1, _), (2, _), (3, _), (4, _), (5, _), (6, _), (7, _)]) rfl ?_
            refine z_iinc C dX0_giveByCode_76 6 rfl (by decide) (L' := [(0, _), (1, _), (2, _), (3, _), (4, _), (5, _), (6, _), (7, _)]) rfl ?_
            refine z_goto C dX0_giveByCode_79 (tgt := 20) (by decide) ?_
            refine z_sub [0, 1, 2, 3, 4, 5, 6] rfl ?_; exact ih20 _ _ m10 (by omega) (by omega) (fun x hx => by rw [hg.2, zs_ne _ _ _ hx, zs_ne _ _ _ hx]; exact h20_2 x hx) (by rw [hst]) (by rw [hst]; show z / _ = (sGv v s c i.toNat).2.1 / _; rw [h20_4]) (by rw [hst]; intro p p0 p1; rw [hg.2, zs_at, zs_at]; show _ = if p = sOth (s * 5 + i) ((sGv v s c i.toNat).2.1 % vC v (1 - s)) then s * 5 + i else if p = s * 5 + i then sOth (s * 5 + i) ((sGv v s c i.toNat).2.1 % vC v (1 - s)) else (sGv v s c i.toNat).2.2 p; rw [← h20_4, ← h20_5 p p0 p1]) hdv.1 hdv.2 (by omega)
          · have hg := hp10
            have hpo := h20_5 (sOth (s * 5 + i) (z % vC v (1 - s))) (by omega) (by omega)
            refine z_if_ne C dX0_giveByCode_64 (tgt := 69) (by decide) (by decide) (fun c12 => (by exfalso; omega)) (fun _ => ?_)
            have hno : (sGv v s c (i + 1).toNat).1 = false := by rw [sGv_s v s c (by omega), if_neg (fun q => hg.1 (by rw [hpo, h20_4]; exact q.2))]
            refine z_iconst C dX0_giveByCode_67 ?_
            exact E dX0_giveByCode_68 (by decide) (z_nb (Or.inl rfl)) (Or.inr ⟨rfl, (by unfold sOk; rw [show (vC v s).toNat = (i + 1).toNat + (vC v s - (i + 1)).toNat by omega]; exact sGv_no v s c hno _), (fun x hx => by rw [hg.2]; exact h20_2 x hx)⟩)
  exact LP20 _ c 0 m1 (by omega) (by omega) hp1.2 rfl rfl hp1.1 (by omega) (by omega) (Nat.lt_succ_self _)
set_option maxHeartbeats 4000000 in
theorem c_X0_firmWays (l : Launch) (μ : zM) (t : Nat) (ht : zTo t) (v : zVw) (hv : zT μ t v) (ho : vOK v) : zMi l yX0_firmWays cX0_firmWays 7 (.int) 3 69 [.inr 27, .inr t] μ (fun (r : Int) (m : zM) => r = sFirm v ∧ ∀ x, x ≠ 28 → m x = μ x) := by
  refine zMi_of (own := RX0) (by decide +kernel) rfl (Nat.le_of_ble_eq_true rfl) ?_
  intro X hX C hrm E
  subst hX
  show zJ X 7 μ 0 [(0, .inr 27), (1, .inr t)] []
  obtain ⟨hv1, hv2, hv3, hv4, hv5, hv6, hv7⟩ := id hv
  obtain ⟨ho1, ho2, ho3, ho4, ho5, ho6, ho7⟩ := id ho
  have JP20 : ∀ (s : Int), (s = sSd v) →  zJ X 7 μ 20 [(0, .inr 27), (1, .inr t)] [.inl s] := by
    intro s j20_0
    have hs : s = 0 ∨ s = 1 := by rw [j20_0]; unfold sSd; split <;> omega
    have hC := vC_eq hv hs
    have hCb := vC_b ho s
    have hCb2 := vC_b ho (1 - s)
    have hle : vC v s ≤ vC v (1 - s) := by rw [j20_0]; unfold sSd vC; split <;> simp <;> omega
    refine z_istore_n C dX0_firmWays_20 (by decide) (L' := [(0, _), (1, _), (2, _)]) rfl ?_
    refine z_aload_n C dX0_firmWays_21 1 rfl ?_
    refine z_getR C ffX0_15 dX0_firmWays_22 (by have := zto_lt ht; omega) (zd_to0 ht) rfl ?_
    refine z_iconst C dX0_firmWays_25 ?_
    refine z_iload_n C dX0_firmWays_26 2 rfl ?_
    refine z_isub C dX0_firmWays_27 ?_
    refine z_iald C dX0_firmWays_28 (by have := zto_lt ht; omega) (zd_to1 ht) (by omega) (by decide) (fun hr1 => ?_)
    rw [hC.2]
    refine z_istore_n C dX0_firmWays_29 (by decide) (L' := [(0, _), (1, _), (2, _), (3, _)]) rfl ?_
    refine z_iconst C dX0_firmWays_30 ?_
    refine z_istore C dX0_firmWays_31 (by decide) (L' := [(0, _), (1, _), (2, _), (3, _), (4, _)]) rfl ?_
    refine z_iconst C dX0_firmWays_33 ?_
    refine z_istore C dX0_firmWays_34 (by decide) (L' := [(0, _), (1, _), (2, _), (3, _), (4, _), (5, _)]) rfl ?_
    have LP36 : ∀ (N36 : Nat) (k : Int) (g : Int), (0 ≤ g) → (g ≤ vC v s) → (k = zPow (vC v (1 - s)) g.toNat) → (5 - g).toNat < N36 → zJ X 7 μ 36 [(0, .inr 27), (1, .inr t), (2, .inl s), (3, .inl (vC v (1 - s))), (4, .inl k), (5, .inl g)] [] := by
      intro N36
      induction N36 with
      | zero => intro k g h36_0 h36_1 h36_2 hN; exact absurd hN (Nat.not_lt_zero _)
      | succ N36 ih36 =>
        intro k g h36_0 h36_1 h36_2 hN36
        have hkb := zPow_5 hCb2 (n := g.toNat) (by omega)
        rw [← h36_2] at hkb
        refine z_iload C dX0_firmWays_36 5 rfl ?_
        refine z_aload_n C dX0_firmWays_38 1 rfl ?_
        refine z_getR C ffX0_15 dX0_firmWays_39 (by have := zto_lt ht; omega) (zd_to0 ht) rfl ?_
        refine z_iload_n C dX0_firmWays_42 2 rfl ?_
        refine z_iald C dX0_firmWays_43 (by have := zto_lt ht; omega) (zd_to1 ht) (by omega) (by decide) (fun hr2 => ?_)
        rw [hC.1]
        refine z_icmp_ge C dX0_firmWays_44 (tgt := 59) (by decide) (by omega) (by omega) (fun c3 => ?_) (fun c3 => ?_)
        · have ek : k = zPow (vC v (1 - s)) (vC v s).toNat := by rw [h36_2, show g = vC v s by omega]
          refine z_iconst C dX0_firmWays_59 ?_
          refine z_istore C dX0_firmWays_60 (by decide) (L' := [(0, _), (1, _), (2, _), (3, _), (4, _), (5, _)]) rfl ?_
          refine z_iconst C dX0_firmWays_62 ?_
          refine z_istore C dX0_firmWays_63 (by decide) (L' := [(0, _), (1, _), (2, _), (3, _), (4, _), (5, _), (6, _)]) rfl ?_
          have LP65 : ∀ (N65 : Nat) (n : Int) (i : Int) (ma : zM), (0 ≤ i) → (i ≤ k) → (n = zSum (sFi v s) i.toNat) → (∀ x, x ≠ 28 → ma x = μ x) → (k - i).toNat < N65 → zJ X 7 ma 65 [(0, .inr 27), (1, .inr t), (2, .inl s), (3, .inl (vC v (1 - s))), (4, .inl k), (5, .inl n), (6, .inl i)] [] := by
            intro N65
            induction N65 with
            | zero => intro n i ma h65_0 h65_1 h65_2 h65_3 hN; exact absurd hN (Nat.not_lt_zero _)
            | succ N65 ih65 =>
              intro n i ma h65_0 h65_1 h65_2 h65_3 hN65
              have hnb := zSum_b (f := sFi v s) (c := 1) i.toNat (fun x _ _ => by unfold sFi; split <;> omega)
              refine z_iload C dX0_firmWays_65 6 rfl ?_
              refine z_iload C dX0_firmWays_67 4 rfl ?_
              refine z_icmp_ge C dX0_firmWays_69 (tgt := 102) (by decide) (by omega) (by omega) (fun c4 => ?_) (fun c4 => ?_)
              · refine z_iload C dX0_firmWays_102 5 rfl ?_
                exact E dX0_firmWays_104 (by omega) rfl ⟨(by rw [h65_2, show i = k by omega, ek]; unfold sFirm; rw [← j20_0]), h65_3⟩
              · refine z_aload_n C dX0_firmWays_72 0 rfl ?_
                refine z_aload_n C dX0_firmWays_73 1 rfl ?_
                refine z_iload_n C dX0_firmWays_74 2 rfl ?_
                refine z_iload C dX0_firmWays_75 6 rfl ?_
                refine z_callVi C (c_X0_giveByCode (zl X) ma t ht v (zT_fr hv (fun x x0 x1 => h65_3 x (by omega))) ho s i hs (by omega) hle) yyX0_giveByCode mlX0_20 (zRc_of (i := 27) C (by decide) rfl rfl) dX0_firmWays_77 rfl rfl (Nat.le_of_ble_eq_true rfl) (by decide) (fun r5 m5 hr5 hp5 => ?_)
                rcases hp5 with ⟨rfl, hp5⟩ | ⟨rfl, hp5⟩
                · have hgk := hp5
                  have hgf := hgk.2.2
                  refine z_if_eq C dX0_firmWays_80 (tgt := 96) (by decide) (by decide) (fun c6 => (by exfalso; omega)) (fun _ => ?_)
                  refine z_aload_n C dX0_firmWays_83 0 rfl ?_
                  refine z_aload_n C dX0_firmWays_84 1 rfl ?_
                  refine z_callVi C (c_X0_firstWhoWouldRather (zl X) m5 t ht v (zT_fr hv (fun x x0 x1 => by rw [hgf x (by omega)]; exact h65_3 x (by omega))) ho (sHas v s i) hgk.2.1 (sHas_ok ho hs hle)) yyX0_firstWhoWouldRather mlX0_24 (zRc_of (i := 27) C (by decide) rfl rfl) dX0_firmWays_85 rfl rfl (Nat.le_of_ble_eq_true rfl) (by decide) (fun r7 m7 hr7 hp7 => ?_)
                  obtain ⟨rfl, hp7⟩ := hp7
                  rw [hp7]
                  refine z_bipush C dX0_firmWays_88 (by decide) ?_
                  refine z_icmp_ne C dX0_firmWays_90 (tgt := 96) (by decide) (by omega) (by decide) (fun c8 => ?_) (fun c8 => ?_)
                  · refine z_iinc C dX0_firmWays_96 6 rfl (by decide) (L' := [(0, _), (1, _), (2, _), (3, _), (4, _), (5, _), (6, _)]) rfl ?_
                    refine z_goto C dX0_firmWays_99 (tgt := 65) (by decide) ?_
                    exact ih65 _ _ m5 (by omega) (by omega) (by rw [zSum_s _ (by omega), h65_2]; unfold sFi; rw [if_neg (fun q => by omega), Int.add_zero]) (fun x hx => by rw [hgf x hx]; exact h65_3 x hx) (by omega)
                  · refine z_iinc C dX0_firmWays_93 5 rfl (by decide) (L' := [(0, _), (1, _), (2, _), (3, _), (4, _), (5, _), (6, _)]) rfl ?_
                    refine z_iinc C dX0_firmWays_96 6 rfl (by decide) (L' := [(0, _), (1, _), (2, _), (3, _), (4, _), (5, _), (6, _)]) rfl ?_
                    refine z_goto C dX0_firmWays_99 (tgt := 65) (by decide) ?_
                    exact ih65 _ _ m5 (by omega) (by omega) (by rw [zSum_s _ (by omega), h65_2]; unfold sFi; rw [if_pos ⟨hgk.1, by omega⟩]) (fun x hx => by rw [hgf x hx]; exact h65_3 x hx) (by omega)
                · have hgk := hp5
                  have hgf := hgk.2
                  refine z_if_eq C dX0_firmWays_80 (tgt := 96) (by decide) (by decide) (fun _ => ?_) (fun c9 => (by exfalso; omega))
                  refine z_iinc C dX0_firmWays_96 6 rfl (by decide) (L' := [(0, _), (1, _), (2, _), (3, _), (4, _), (5, _), (6, _)]) rfl ?_
                  refine z_goto C dX0_firmWays_99 (tgt := 65) (by decide) ?_
                  exact ih65 _ _ m5 (by omega) (by omega) (by rw [zSum_s _ (by omega), h65_2]; unfold sFi; rw [if_neg (fun q => by rw [hgk.1] at q; cases q.1), Int.add_zero]) (fun x hx => by rw [hgf x hx]; exact h65_3 x hx) (by omega)
          exact LP65 _ 0 0 μ (by omega) (by omega) rfl (fun _ _ => rfl) (Nat.lt_succ_self _)
        · refine z_iload C dX0_firmWays_47 4 rfl ?_
          refine z_iload_n C dX0_firmWays_49 3 rfl ?_
          refine z_imul C dX0_firmWays_50 ?_
          refine z_istore C dX0_firmWays_51 (by decide) (L' := [(0, _), (1, _), (2, _), (3, _), (4, _), (5, _)]) rfl ?_
          refine z_iinc C dX0_firmWays_53 5 rfl (by decide) (L' := [(0, _), (1, _), (2, _), (3, _), (4, _), (5, _)]) rfl ?_
          refine z_goto C dX0_firmWays_56 (tgt := 36) (by decide) ?_
          exact ih36 _ _ (by omega) (by omega) (by rw [zPow_s _ (by omega), ← h36_2]) (by omega)
    exact LP36 _ 1 0 (by omega) (by omega) rfl (Nat.lt_succ_self _)
  refine z_aload_n C dX0_firmWays_0 1 rfl ?_
  refine z_getR C ffX0_15 dX0_firmWays_1 (by have := zto_lt ht; omega) (zd_to0 ht) rfl ?_
  refine z_iconst C dX0_firmWays_4 ?_
  refine z_iald C dX0_firmWays_5 (by have := zto_lt ht; omega) (zd_to1 ht) (by decide) (by decide) (fun hr10 => ?_)
  rw [hv1]
  refine z_aload_n C dX0_firmWays_6 1 rfl ?_
  refine z_getR C ffX0_15 dX0_firmWays_7 (by have := zto_lt ht; omega) (zd_to0 ht) rfl ?_
  refine z_iconst C dX0_firmWays_10 ?_
  refine z_iald C dX0_firmWays_11 (by have := zto_lt ht; omega) (zd_to1 ht) (by decide) (by decide) (fun hr11 => ?_)
  rw [hv2]
  refine z_icmp_gt C dX0_firmWays_12 (tgt := 19) (by decide) (by omega) (by omega) (fun c12 => ?_) (fun c12 => ?_)
  · refine z_iconst C dX0_firmWays_19 ?_
    exact JP20 _ (by unfold sSd; first | exact (if_pos (by omega)).symm | exact (if_neg (by omega)).symm)
  · refine z_iconst C dX0_firmWays_15 ?_
    refine z_goto C dX0_firmWays_16 (tgt := 20) (by decide) ?_
    exact JP20 _ (by unfold sSd; first | exact (if_pos (by omega)).symm | exact (if_neg (by omega)).symm)
