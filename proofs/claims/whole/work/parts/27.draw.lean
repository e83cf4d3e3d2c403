/-! contract: likings drawn -/
set_option maxHeartbeats 4000000 in
theorem c_X4_drawLikings (l : Launch) (μ : zM) (t : Nat) (ht : zTo t) (v : zVw) (hv : zT μ t v) (ho : vOK v) (z : Int) (hz : zR z) : zMi l yX4_drawLikings cX4_drawLikings 5 (.int) 2 41 [.inr t, .inl z] μ (fun (r : Int) (m : zM) => r = (sDa v 10 (z, v)).1 ∧ zT m t (sDa v 10 (z, v)).2 ∧ ∀ a, a ≠ t + 4 → m a = μ a) := by
  refine zMi_of (own := RX4) (by decide +kernel) rfl (Nat.le_of_ble_eq_true rfl) ?_
  intro X hX C hrm E
  subst hX
  show zJ X 5 μ 0 [(0, .inr t), (1, .inl z)] []
  obtain ⟨hv1, hv2, hv3, hv4, hv5, hv6, hv7⟩ := id hv
  obtain ⟨ho1, ho2, ho3, ho4, ho5, ho6, ho7⟩ := id ho
  refine z_iload_n C dX4_drawLikings_0 1 rfl ?_
  refine z_istore_n C dX4_drawLikings_1 (by decide) (L' := [(0, _), (1, _), (2, _)]) rfl ?_
  refine z_iconst C dX4_drawLikings_2 ?_
  refine z_istore_n C dX4_drawLikings_3 (by decide) (L' := [(0, _), (1, _), (2, _), (3, _)]) rfl ?_
  have LP4 : ∀ (N4 : Nat) (y : Int) (p : Int) (ma : zM), (0 ≤ p) → (p ≤ 10) → (y = (sDa v p.toNat (z, v)).1) → (zT ma t (sDa v p.toNat (z, v)).2) → (∀ a, a ≠ t + 4 → ma a = μ a) → (10 - p).toNat < N4 → zJ X 5 ma 4 [(0, .inr t), (1, .inl z), (2, .inl y), (3, .inl p)] [] := by
    intro N4
    induction N4 with
    | zero => intro y p ma h4_0 h4_1 h4_2 h4_3 h4_4 hN; exact absurd hN (Nat.not_lt_zero _)
    | succ N4 ih4 =>
      intro y p ma h4_0 h4_1 h4_2 h4_3 h4_4 hN4
      have hkA := sDa_k (v := v) (x := (z, v)) ⟨vSame_r v, ho, hz⟩ p.toNat
      have hk1 := hkA.1.1
      have hk2 := hkA.1.2.1
      have hyR : zR y := by rw [h4_2]; exact hkA.2.2
      have hvF : (p < 5 ∧ vF v p = vR v) ∨ (5 ≤ p ∧ vF v p = vL v) := by unfold vF; split <;> omega
      refine z_iload_n C dX4_drawLikings_4 3 rfl ?_
      refine z_bipush C dX4_drawLikings_5 (by decide) ?_
      refine z_icmp_ge C dX4_drawLikings_7 (tgt := 77) (by decide) (by omega) (by decide) (fun c1 => ?_) (fun c1 => ?_)
      · refine z_iload_n C dX4_drawLikings_77 2 rfl ?_
        exact E dX4_drawLikings_78 (by omega) rfl ⟨(by rw [h4_2, show p.toNat = 10 by omega]), (by rw [← show p.toNat = 10 by omega]; exact h4_3), h4_4⟩
      · refine z_aload_n C dX4_drawLikings_10 0 rfl ?_
        refine z_iload_n C dX4_drawLikings_11 3 rfl ?_
        refine z_callVi C (c_X4_isThere (zl X) ma t ht (sDa v p.toNat (z, v)).2 h4_3 hkA.2.1 p (by omega)) yyX4_isThere mlX4_44 (zRc_of (i := t) C (by have := zto_lt ht; omega) (zd_to0 ht) rfl) dX4_drawLikings_12 rfl rfl (Nat.le_of_ble_eq_true rfl) (by decide) (fun r2 m2 hr2 hp2 => ?_)
        obtain ⟨rfl, hp2⟩ := hp2
        rcases hp2 with ⟨rfl, hp2⟩ | ⟨rfl, hp2⟩
        · refine z_if_ne C dX4_drawLikings_15 (tgt := 21) (by decide) (by decide) (fun _ => ?_) (fun c3 => (by exfalso; omega))
          refine z_iconst C dX4_drawLikings_21 ?_
          refine z_istore C dX4_drawLikings_22 (by decide) (L' := [(0, _), (1, _), (2, _), (3, _), (4, _)]) rfl ?_
          have LP24 : ∀ (N24 : Nat) (x : Int) (i : Int) (mb : zM), (0 ≤ i) → (i ≤ vF v p) → (x = (sDr p i.toNat (sDa v p.toNat (z, v))).1) → (zT mb t (sDr p i.toNat (sDa v p.toNat (z, v))).2) → (∀ a, a ≠ t + 4 → mb a = μ a) → (5 - i).toNat < N24 → zJ X 5 mb 24 [(0, .inr t), (1, .inl z), (2, .inl x), (3, .inl p), (4, .inl i)] [] := by
            intro N24
            induction N24 with
            | zero => intro x i mb h24_0 h24_1 h24_2 h24_3 h24_4 hN; exact absurd hN (Nat.not_lt_zero _)
            | succ N24 ih24 =>
              intro x i mb h24_0 h24_1 h24_2 h24_3 h24_4 hN24
              have hkB := sDr_k (p := p) hkA i.toNat
              have hk3 := hkB.1.1
              have hk4 := hkB.1.2.1
              have hxR : zR x := by rw [h24_2]; exact hkB.2.2
              refine z_iload C dX4_drawLikings_24 4 rfl ?_
              refine z_aload_n C dX4_drawLikings_26 0 rfl ?_
              refine z_iload_n C dX4_drawLikings_27 3 rfl ?_
              refine z_callVi C (c_X4_howManyFacing (zl X) mb t ht (sDr p i.toNat (sDa v p.toNat (z, v))).2 h24_3 hkB.2.1 p (by omega)) yyX4_howManyFacing mlX4_62 (zRc_of (i := t) C (by have := zto_lt ht; omega) (zd_to0 ht) rfl) dX4_drawLikings_28 rfl rfl (Nat.le_of_ble_eq_true rfl) (by decide) (fun r4 m4 hr4 hp4 => ?_)
              obtain ⟨rfl, hp4⟩ := hp4
              have hr : r4 = vF v p := by omega
              rw [hr]
              refine z_icmp_ge C dX4_drawLikings_31 (tgt := 71) (by decide) (by omega) (by omega) (fun c5 => ?_) (fun c5 => ?_)
              · refine z_iinc C dX4_drawLikings_71 3 rfl (by decide) (L' := [(0, _), (1, _), (2, _), (3, _), (4, _)]) rfl ?_
                refine z_goto C dX4_drawLikings_74 (tgt := 4) (by decide) ?_
                refine z_sub [0, 1, 2, 3] rfl ?_; exact ih4 _ _ mb (by omega) (by omega) (by rw [sDa_s v (by omega), if_pos (by omega), show vF v p = i by omega]; exact h24_2) (by rw [sDa_s v (by omega), if_pos (by omega), show vF v p = i by omega]; exact h24_3) h24_4 (by omega)
              · refine z_iload_n C dX4_drawLikings_34 2 rfl ?_
                refine z_ldc C (n := 1664525) dX4_drawLikings_35 kkX4_65 ?_
                refine z_imul C dX4_drawLikings_37 ?_
                refine z_ldc C (n := 1013904223) dX4_drawLikings_38 kkX4_66 ?_
                refine z_iadd C dX4_drawLikings_40 ?_
                refine z_wrap ?_
                rw [show zw (x * 1664525 + 1013904223) = sDz x from rfl]
                have hzp := zand_pos (sDz x)
                have hvb := sDv_b (sDz x)
                have hzR : zR (sDz x) := zw_R _
                refine z_istore_n C dX4_drawLikings_41 (by decide) (L' := [(0, _), (1, _), (2, _), (3, _), (4, _)]) rfl ?_
                refine z_aload_n C dX4_drawLikings_42 0 rfl ?_
                refine z_iload_n C dX4_drawLikings_43 3 rfl ?_
                refine z_iload_n C dX4_drawLikings_44 3 rfl ?_
                refine z_callNi C (c_X5_otherStart (zl X) mb p (by omega)) yyX5_otherStart (by decide +kernel) dX4_drawLikings_45 rfl rfl (Nat.le_of_ble_eq_true rfl) (by decide) (fun r6 m6 hr6 hp6 => ?_)
                obtain ⟨rfl, hp6⟩ := hp6
                rcases hp6 with ⟨hp6, rfl⟩ | ⟨hp6, rfl⟩
                · refine z_iload C dX4_drawLikings_48 4 rfl ?_
                  refine z_iadd C dX4_drawLikings_50 ?_
                  refine z_iload_n C dX4_drawLikings_51 2 rfl ?_
                  refine z_ldc C (n := 2147483647) dX4_drawLikings_52 kkX4_70 ?_
                  refine z_iand C dX4_drawLikings_54 ?_
                  refine z_sipush C dX4_drawLikings_55 (by decide) ?_
                  refine z_idiv C dX4_drawLikings_58 (by omega) ?_
                  refine z_bipush C dX4_drawLikings_59 (by decide) ?_
                  refine z_irem C dX4_drawLikings_61 (by omega) ?_
                  rw [show zand (sDz x) 2147483647 / 256 % 10 = sDv (sDz x) from rfl]
                  refine z_callVv C (c_X4_setLiking (zl X) mb t ht p (5 + i) (sDv (sDz x)) (by omega) (by omega) (by omega)) yyX4_setLiking mlX4_58 (zRc_of (i := t) C (by have := zto_lt ht; omega) (zd_to0 ht) rfl) dX4_drawLikings_62 rfl rfl (Nat.le_of_ble_eq_true rfl) (by decide) (fun m7 hp7 => ?_)
                  refine z_iinc C dX4_drawLikings_65 4 rfl (by decide) (L' := [(0, _), (1, _), (2, _), (3, _), (4, _)]) rfl ?_
                  refine z_goto C dX4_drawLikings_68 (tgt := 24) (by decide) ?_
                  exact ih24 _ _ m7 (by omega) (by omega) (by rw [sDr_s p (by omega), ← h24_2]) (by rw [sDr_s p (by omega), ← h24_2, show sOth p i = 5 + i by unfold sOth; rw [if_pos (by omega)], hp7]; exact zT_like h24_3 (by omega)) (fun a ha => by rw [hp7, zs_ne _ _ _ ha]; exact h24_4 a ha) (by omega)
                · refine z_iload C dX4_drawLikings_48 4 rfl ?_
                  refine z_iadd C dX4_drawLikings_50 ?_
                  refine z_iload_n C dX4_drawLikings_51 2 rfl ?_
                  refine z_ldc C (n := 2147483647) dX4_drawLikings_52 kkX4_70 ?_
                  refine z_iand C dX4_drawLikings_54 ?_
                  refine z_sipush C dX4_drawLikings_55 (by decide) ?_
                  refine z_idiv C dX4_drawLikings_58 (by omega) ?_
                  refine z_bipush C dX4_drawLikings_59 (by decide) ?_
                  refine z_irem C dX4_drawLikings_61 (by omega) ?_
                  rw [show zand (sDz x) 2147483647 / 256 % 10 = sDv (sDz x) from rfl]
                  refine z_callVv C (c_X4_setLiking (zl X) mb t ht p (0 + i) (sDv (sDz x)) (by omega) (by omega) (by omega)) yyX4_setLiking mlX4_58 (zRc_of (i := t) C (by have := zto_lt ht; omega) (zd_to0 ht) rfl) dX4_drawLikings_62 rfl rfl (Nat.le_of_ble_eq_true rfl) (by decide) (fun m8 hp8 => ?_)
                  refine z_iinc C dX4_drawLikings_65 4 rfl (by decide) (L' := [(0, _), (1, _), (2, _), (3, _), (4, _)]) rfl ?_
                  refine z_goto C dX4_drawLikings_68 (tgt := 24) (by decide) ?_
                  exact ih24 _ _ m8 (by omega) (by omega) (by rw [sDr_s p (by omega), ← h24_2]) (by rw [sDr_s p (by omega), ← h24_2, show sOth p i = 0 + i by unfold sOth; rw [if_neg (by omega)]; omega, hp8]; exact zT_like h24_3 (by omega)) (fun a ha => by rw [hp8, zs_ne _ _ _ ha]; exact h24_4 a ha) (by omega)
          exact LP24 _ y 0 ma (by omega) (by omega) h4_2 h4_3 h4_4 (Nat.lt_succ_self _)
        · refine z_if_ne C dX4_drawLikings_15 (tgt := 21) (by decide) (by decide) (fun c9 => (by exfalso; omega)) (fun _ => ?_)
          refine z_goto C dX4_drawLikings_18 (tgt := 71) (by decide) ?_
          refine z_iinc C dX4_drawLikings_71 3 rfl (by decide) (L' := [(0, _), (1, _), (2, _), (3, _)]) rfl ?_
          refine z_goto C dX4_drawLikings_74 (tgt := 4) (by decide) ?_
          exact ih4 _ _ ma (by omega) (by omega) (by rw [sDa_s v (by omega), if_neg (by omega)]; exact h4_2) (by rw [sDa_s v (by omega), if_neg (by omega)]; exact h4_3) h4_4 (by omega)
  exact LP4 _ z 0 μ (by omega) (by omega) rfl hv (fun _ _ => rfl) (Nat.lt_succ_self _)
