/-! contracts: Rounds, hold -/
set_option maxHeartbeats 4000000 in
theorem c_X2_feelAndSay (l : Launch) (μ : zM) (t : Nat) (ht : zTo t) (v : zVw) (hv : zT μ t v) (ho : vOK v) (p k o : Int) (hp : vTh v p) (hk : 0 ≤ k ∧ k < 5) (hpar : ∀ k, 0 ≤ k → k < 5 → μ (48 + p.toNat) k = sPar v p k) (hov : sPar v p k = o) (hno : ¬ o = -9) (hs : 0 ≤ μ 21 p ∧ μ 21 p < 32) (hsh : 0 ≤ μ 18 3 ∧ μ 18 3 ≤ 100) : zMv l yX2_feelAndSay cX2_feelAndSay 6 3 71 [.inr 18, .inr t, .inl p, .inl k] μ (fun (m : zM) => (∀ a x, ¬ (a = 58 + p.toNat ∧ x = k) → ¬ (a = 21 ∧ x = p) → ¬ (a = 18 ∧ x = 3) → m a x = μ a x) ∧ (∀ a, a < 48 → a ≠ 18 → a ≠ 21 → m a = μ a) ∧ m (58 + p.toNat) k = sFeel v p o k ∧ m 21 p = (if vB v p ≤ sFeel v p o k then zor (μ 21 p) (zbit o) else μ 21 p) ∧ m 18 3 = μ 18 3 + (if ¬ sFeel v p o k = vA v p o then 1 else 0)) := by
  refine zMv_of (own := RX2) (by decide +kernel) rfl (Nat.le_of_ble_eq_true rfl) ?_
  intro X hX C hrm E
  subst hX
  show zJ X 6 μ 0 [(0, .inr 18), (1, .inr t), (2, .inl p), (3, .inl k)] []
  obtain ⟨hv1, hv2, hv3, hv4, hv5, hv6, hv7⟩ := id hv
  obtain ⟨ho1, ho2, ho3, ho4, ho5, ho6, ho7⟩ := id ho
  have hu := sPar_U ho (p := p) (k := k)
  rw [hov] at hu
  have hpo : zU p o := by omega
  have hfb := sFeel_b ho hk hpo
  have hbb := (ho6 p (by omega) (by omega)).2
  have hvb := (hv6 p (by omega) (by omega)).2
  have hq := ho7 p o hpo
  have hzb := zor_bit (μ 21 p) hs.1 hs.2 o (by omega) (by omega)
  refine z_aload_n C dX2_feelAndSay_0 0 rfl ?_
  refine z_getR C ffX2_11 dX2_feelAndSay_1 (by decide) rfl rfl ?_
  refine z_iload_n C dX2_feelAndSay_4 2 rfl ?_
  refine z_aald C dX2_feelAndSay_5 (by decide) rfl (by omega) (by decide) ?_
  refine z_iload_n C dX2_feelAndSay_6 3 rfl ?_
  refine z_iald C dX2_feelAndSay_7 (by omega) (zd_row (by omega)) (by omega) (by decide) (fun hr1 => ?_)
  rw [hpar k (by omega) (by omega), hov]
  refine z_istore C dX2_feelAndSay_8 (by decide) (L' := [(0, _), (1, _), (2, _), (3, _), (4, _)]) rfl ?_
  refine z_aload_n C dX2_feelAndSay_10 0 rfl ?_
  refine z_aload_n C dX2_feelAndSay_11 1 rfl ?_
  refine z_iload_n C dX2_feelAndSay_12 2 rfl ?_
  refine z_iload C dX2_feelAndSay_13 4 rfl ?_
  refine z_iload_n C dX2_feelAndSay_15 3 rfl ?_
  refine z_callVi C (c_X2_feeling (zl X) μ t ht v hv ho p o k (by omega) (by omega) (by omega) hpar) yyX2_feeling mlX2_67 (zRc_of (i := 18) C (by decide) rfl rfl) dX2_feelAndSay_16 rfl rfl (Nat.le_of_ble_eq_true rfl) (by decide) (fun r2 m2 hr2 hp2 => ?_)
  obtain ⟨rfl, hp2⟩ := hp2
  rw [hp2]
  refine z_istore C dX2_feelAndSay_19 (by decide) (L' := [(0, _), (1, _), (2, _), (3, _), (4, _), (5, _)]) rfl ?_
  refine z_aload_n C dX2_feelAndSay_21 0 rfl ?_
  refine z_getR C ffX2_16 dX2_feelAndSay_22 (by decide) rfl rfl ?_
  refine z_iload_n C dX2_feelAndSay_25 2 rfl ?_
  refine z_aald C dX2_feelAndSay_26 (by decide) rfl (by omega) (by decide) ?_
  refine z_iload_n C dX2_feelAndSay_27 3 rfl ?_
  refine z_iload C dX2_feelAndSay_28 5 rfl ?_
  refine z_iast C dX2_feelAndSay_30 (by omega) (zd_row (by omega)) (by omega) (by decide) (by omega) ?_
  refine z_mem (fun m3 em3 => ?_)
  refine z_iload C dX2_feelAndSay_31 5 rfl ?_
  refine z_aload_n C dX2_feelAndSay_33 1 rfl ?_
  refine z_getR C ffX2_71 dX2_feelAndSay_34 (by have := zto_lt ht; omega) (zd_to0 ht) rfl ?_
  refine z_iload_n C dX2_feelAndSay_37 2 rfl ?_
  refine z_iald C dX2_feelAndSay_38 (by have := zto_lt ht; omega) (zd_to3 ht) (by omega) (by decide) (fun hr4 => ?_)
  have ht3 : m3 (t + 3) p = vB v p := by rw [em3, zs_o _ _ (by omega)]; exact hvb
  rw [ht3]
  refine z_icmp_lt C dX2_feelAndSay_39 (tgt := 56) (by decide) (by omega) (by omega) (fun c5 => ?_) (fun c5 => ?_)
  · refine z_iload C dX2_feelAndSay_56 5 rfl ?_
    refine z_aload_n C dX2_feelAndSay_58 1 rfl ?_
    refine z_iload_n C dX2_feelAndSay_59 2 rfl ?_
    refine z_iload C dX2_feelAndSay_60 4 rfl ?_
    refine z_callVi C (c_X4_likes (zl X) m3 t ht v (zT_fr hv (fun i i0 i1 => by rw [em3, zs_ne _ _ _ (by omega)])) ho p o (by omega)) yyX4_likes mlX2_77 (zRc_of (i := t) C (by have := zto_lt ht; omega) (zd_to0 ht) rfl) dX2_feelAndSay_62 rfl rfl (Nat.le_of_ble_eq_true rfl) (by decide) (fun r6 m6 hr6 hp6 => ?_)
    obtain ⟨rfl, hp6⟩ := hp6
    rw [hp6]
    refine z_icmp_eq C dX2_feelAndSay_65 (tgt := 78) (by decide) (by omega) (by omega) (fun c7 => ?_) (fun c7 => ?_)
    · exact E dX2_feelAndSay_78 ⟨(fun a x q1 q2 q3 => by rw [em3, zs_o _ _ (by assumption)]), (fun a q1 q2 q3 => by rw [em3, zs_ne _ _ _ (by omega)]), (by rw [em3, zs_self]), (by rw [em3, zs_o _ _ (by omega), if_neg (by omega)]), (by rw [em3, zs_o _ _ (by omega), if_neg (by omega), Int.add_zero])⟩
    · refine z_aload_n C dX2_feelAndSay_68 0 rfl ?_
      refine z_dup C dX2_feelAndSay_69 ?_
      refine z_getI C ffX2_23 dX2_feelAndSay_70 (by decide) rfl rfl 3 rfl (fun hr8 => ?_)
      have hs18 : m3 18 3 = μ 18 3 := by rw [em3, zs_o _ _ (by omega)]
      rw [hs18]
      refine z_iconst C dX2_feelAndSay_73 ?_
      refine z_iadd C dX2_feelAndSay_74 ?_
      refine z_putI C ffX2_23 fp2_3 dX2_feelAndSay_75 (by decide) rfl rfl 3 rfl (by omega) ?_
      refine z_mem (fun m9 em9 => ?_)
      exact E dX2_feelAndSay_78 ⟨(fun a x q1 q2 q3 => by rw [em9, zs_o _ _ (by assumption), em3, zs_o _ _ (by assumption)]), (fun a q1 q2 q3 => by rw [em9, zs_ne _ _ _ (by omega), em3, zs_ne _ _ _ (by omega)]), (by rw [em9, zs_o _ _ (by omega), em3, zs_self]), (by rw [em9, zs_o _ _ (by omega), em3, zs_o _ _ (by omega), if_neg (by omega)]), (by rw [em9, zs_self, if_pos (by omega)])⟩
  · refine z_aload_n C dX2_feelAndSay_42 0 rfl ?_
    refine z_getR C ffX2_19 dX2_feelAndSay_43 (by decide) rfl rfl ?_
    refine z_iload_n C dX2_feelAndSay_46 2 rfl ?_
    refine z_dup2 C dX2_feelAndSay_47 ?_
    refine z_iald C dX2_feelAndSay_48 (by decide) rfl (by omega) (by decide) (fun hr10 => ?_)
    have hs21 : m3 21 p = μ 21 p := by rw [em3, zs_o _ _ (by omega)]
    rw [hs21]
    refine z_iload C dX2_feelAndSay_49 4 rfl ?_
    refine z_callNi C (c_X5_bitOf (zl X) m3 o (by omega)) yyX5_bitOf (by decide +kernel) dX2_feelAndSay_51 rfl rfl (Nat.le_of_ble_eq_true rfl) (by decide) (fun r11 m11 hr11 hp11 => ?_)
    obtain ⟨rfl, hp11⟩ := hp11
    rw [hp11]
    refine z_ior C dX2_feelAndSay_54 ?_
    refine z_iast C dX2_feelAndSay_55 (by decide) rfl (by omega) (by decide) (by omega) ?_
    refine z_mem (fun m12 em12 => ?_)
    refine z_iload C dX2_feelAndSay_56 5 rfl ?_
    refine z_aload_n C dX2_feelAndSay_58 1 rfl ?_
    refine z_iload_n C dX2_feelAndSay_59 2 rfl ?_
    refine z_iload C dX2_feelAndSay_60 4 rfl ?_
    refine z_callVi C (c_X4_likes (zl X) m12 t ht v (zT_fr hv (fun i i0 i1 => by rw [em12, zs_ne _ _ _ (by omega), em3, zs_ne _ _ _ (by omega)])) ho p o (by omega)) yyX4_likes mlX2_77 (zRc_of (i := t) C (by have := zto_lt ht; omega) (zd_to0 ht) rfl) dX2_feelAndSay_62 rfl rfl (Nat.le_of_ble_eq_true rfl) (by decide) (fun r13 m13 hr13 hp13 => ?_)
    obtain ⟨rfl, hp13⟩ := hp13
    rw [hp13]
    refine z_icmp_eq C dX2_feelAndSay_65 (tgt := 78) (by decide) (by omega) (by omega) (fun c14 => ?_) (fun c14 => ?_)
    · exact E dX2_feelAndSay_78 ⟨(fun a x q1 q2 q3 => by rw [em12, zs_o _ _ (by assumption), em3, zs_o _ _ (by assumption)]), (fun a q1 q2 q3 => by rw [em12, zs_ne _ _ _ (by omega), em3, zs_ne _ _ _ (by omega)]), (by rw [em12, zs_o _ _ (by omega), em3, zs_self]), (by rw [em12, zs_self, if_pos (by omega)]), (by rw [em12, zs_o _ _ (by omega), em3, zs_o _ _ (by omega), if_neg (by omega), Int.add_zero])⟩
    · refine z_aload_n C dX2_feelAndSay_68 0 rfl ?_
      refine z_dup C dX2_feelAndSay_69 ?_
      refine z_getI C ffX2_23 dX2_feelAndSay_70 (by decide) rfl rfl 3 rfl (fun hr15 => ?_)
      have hs18 : m12 18 3 = μ 18 3 := by rw [em12, zs_o _ _ (by omega), em3, zs_o _ _ (by omega)]
      rw [hs18]
      refine z_iconst C dX2_feelAndSay_73 ?_
      refine z_iadd C dX2_feelAndSay_74 ?_
      refine z_putI C ffX2_23 fp2_3 dX2_feelAndSay_75 (by decide) rfl rfl 3 rfl (by omega) ?_
      refine z_mem (fun m16 em16 => ?_)
      exact E dX2_feelAndSay_78 ⟨(fun a x q1 q2 q3 => by rw [em16, zs_o _ _ (by assumption), em12, zs_o _ _ (by assumption), em3, zs_o _ _ (by assumption)]), (fun a q1 q2 q3 => by rw [em16, zs_ne _ _ _ (by omega), em12, zs_ne _ _ _ (by omega), em3, zs_ne _ _ _ (by omega)]), (by rw [em16, zs_o _ _ (by omega), em12, zs_o _ _ (by omega), em3, zs_self]), (by rw [em16, zs_o _ _ (by omega), em12, zs_self, if_pos (by omega)]), (by rw [em16, zs_self, if_pos (by omega)])⟩
set_option maxHeartbeats 4000000 in
theorem c_X2_hold (l : Launch) (μ : zM) (t : Nat) (ht : zTo t) (v : zVw) (hv : zT μ t v) (ho : vOK v) : zMv l yX2_hold cX2_hold 5 4 96 [.inr 18, .inr t] μ (fun (m : zM) => zH m v ∧ ∀ a, a < 48 → a ≠ 18 → a ≠ 21 → m a = μ a) := by
  refine zMv_of (own := RX2) (by decide +kernel) rfl (Nat.le_of_ble_eq_true rfl) ?_
  intro X hX C hrm E
  subst hX
  show zJ X 5 μ 0 [(0, .inr 18), (1, .inr t)] []
  obtain ⟨hv1, hv2, hv3, hv4, hv5, hv6, hv7⟩ := id hv
  obtain ⟨ho1, ho2, ho3, ho4, ho5, ho6, ho7⟩ := id ho
  obtain ⟨n1, n2, n3, n4⟩ := vN_ok ho
  refine z_aload_n C dX2_hold_0 0 rfl ?_
  refine z_aload_n C dX2_hold_1 1 rfl ?_
  refine z_callVi C (c_X4_rounds (zl X) μ t ht v hv ho) yyX4_rounds mlX2_30 (zRc_of (i := t) C (by have := zto_lt ht; omega) (zd_to0 ht) rfl) dX2_hold_2 rfl rfl (Nat.le_of_ble_eq_true rfl) (by decide) (fun r1 m1 hr1 hp1 => ?_)
  obtain ⟨rfl, hp1⟩ := hp1
  rw [hp1]
  refine z_putI C ffX2_27 fp2_4 dX2_hold_5 (by decide) rfl rfl 4 rfl (by omega) ?_
  refine z_mem (fun m2 em2 => ?_)
  refine z_aload_n C dX2_hold_8 0 rfl ?_
  refine z_iconst C dX2_hold_9 ?_
  refine z_putI C ffX2_23 fp2_3 dX2_hold_10 (by decide) rfl rfl 3 rfl (by decide) ?_
  refine z_mem (fun m3 em3 => ?_)
  refine z_iconst C dX2_hold_13 ?_
  refine z_istore_n C dX2_hold_14 (by decide) (L' := [(0, _), (1, _), (2, _)]) rfl ?_
  have LP15 : ∀ (N15 : Nat) (i : Int) (ma : zM), (0 ≤ i) → (i ≤ 10) → (zHd μ ma v i (sSh v i.toNat)) → (10 - i).toNat < N15 → zJ X 5 ma 15 [(0, .inr 18), (1, .inr t), (2, .inl i)] [] := by
    intro N15
    induction N15 with
    | zero => intro i ma h15_0 h15_1 h15_2 hN; exact absurd hN (Nat.not_lt_zero _)
    | succ N15 ih15 =>
      intro i ma h15_0 h15_1 h15_2 hN15
      refine z_iload_n C dX2_hold_15 2 rfl ?_
      refine z_bipush C dX2_hold_16 (by decide) ?_
      refine z_icmp_ge C dX2_hold_18 (tgt := 130) (by decide) (by omega) (by decide) (fun c4 => ?_) (fun c4 => ?_)
      · exact E dX2_hold_130 (zHd_end h15_2 (by omega))
      · refine z_aload_n C dX2_hold_21 1 rfl ?_
        refine z_iload_n C dX2_hold_22 2 rfl ?_
        refine z_callVi C (c_X4_isThere (zl X) ma t ht v (zT_fr hv (fun a a0 a1 => h15_2.1 a (by omega) (by omega) (by omega))) ho i (by omega)) yyX4_isThere mlX2_36 (zRc_of (i := t) C (by have := zto_lt ht; omega) (zd_to0 ht) rfl) dX2_hold_23 rfl rfl (Nat.le_of_ble_eq_true rfl) (by decide) (fun r5 m5 hr5 hp5 => ?_)
        obtain ⟨rfl, hp5⟩ := hp5
        refine z_istore_n C dX2_hold_26 (by decide) (L' := [(0, _), (1, _), (2, _), (3, _)]) rfl ?_
        refine z_iconst C dX2_hold_27 ?_
        refine z_istore C dX2_hold_28 (by decide) (L' := [(0, _), (1, _), (2, _), (3, _), (4, _)]) rfl ?_
        have LP30 : ∀ (N30 : Nat) (j : Int) (mb : zM), (0 ≤ j) → (j ≤ 5) → (zHd μ mb v i (sSh v i.toNat)) → (∀ k, 0 ≤ k → k < j → mb (48 + i.toNat) k = sPar v i k) → (5 - j).toNat < N30 → zJ X 5 mb 30 [(0, .inr 18), (1, .inr t), (2, .inl i), (3, .inl r5), (4, .inl j)] [] := by
          intro N30
          induction N30 with
          | zero => intro j mb h30_0 h30_1 h30_2 h30_3 hN; exact absurd hN (Nat.not_lt_zero _)
          | succ N30 ih30 =>
            intro j mb h30_0 h30_1 h30_2 h30_3 hN30
            refine z_iload C dX2_hold_30 4 rfl ?_
            refine z_iconst C dX2_hold_32 ?_
            refine z_icmp_ge C dX2_hold_33 (tgt := 68) (by decide) (by omega) (by decide) (fun c6 => ?_) (fun c6 => ?_)
            · refine z_aload_n C dX2_hold_68 0 rfl ?_
              refine z_getR C ffX2_19 dX2_hold_69 (by decide) rfl rfl ?_
              refine z_iload_n C dX2_hold_72 2 rfl ?_
              refine z_iconst C dX2_hold_73 ?_
              refine z_iast C dX2_hold_74 (by decide) rfl (by omega) (by decide) (by decide) ?_
              refine z_mem (fun m7 em7 => ?_)
              refine z_iconst C dX2_hold_75 ?_
              refine z_istore C dX2_hold_76 (by decide) (L' := [(0, _), (1, _), (2, _), (3, _), (4, _)]) rfl ?_
              have LP78 : ∀ (N78 : Nat) (j : Int) (mc : zM), (0 ≤ j) → (j ≤ 5) → (zHi μ mc v i j) → (5 - j).toNat < N78 → zJ X 5 mc 78 [(0, .inr 18), (1, .inr t), (2, .inl i), (3, .inl r5), (4, .inl j)] [] := by
                intro N78
                induction N78 with
                | zero => intro j mc h78_0 h78_1 h78_2 hN; exact absurd hN (Nat.not_lt_zero _)
                | succ N78 ih78 =>
                  intro j mc h78_0 h78_1 h78_2 hN78
                  refine z_iload C dX2_hold_78 4 rfl ?_
                  refine z_iconst C dX2_hold_80 ?_
                  refine z_icmp_ge C dX2_hold_81 (tgt := 124) (by decide) (by omega) (by decide) (fun c8 => ?_) (fun c8 => ?_)
                  · refine z_iinc C dX2_hold_124 2 rfl (by decide) (L' := [(0, _), (1, _), (2, _), (3, _), (4, _)]) rfl ?_
                    refine z_goto C dX2_hold_127 (tgt := 15) (by decide) ?_
                    refine z_sub [0, 1, 2] rfl ?_; exact ih15 _ mc (by omega) (by omega) (zHi_next h78_2 (by omega) (by omega)) (by omega)
                  · refine z_aload_n C dX2_hold_84 0 rfl ?_
                    refine z_getR C ffX2_16 dX2_hold_85 (by decide) rfl rfl ?_
                    refine z_iload_n C dX2_hold_88 2 rfl ?_
                    refine z_aald C dX2_hold_89 (by decide) rfl (by omega) (by decide) ?_
                    refine z_iload C dX2_hold_90 4 rfl ?_
                    refine z_sipush C dX2_hold_92 (by decide) ?_
                    refine z_iast C dX2_hold_95 (by omega) (zd_row (by omega)) (by omega) (by decide) (by decide) ?_
                    refine z_mem (fun m9 em9 => ?_)
                    refine z_aload_n C dX2_hold_96 0 rfl ?_
                    refine z_getR C ffX2_11 dX2_hold_97 (by decide) rfl rfl ?_
                    refine z_iload_n C dX2_hold_100 2 rfl ?_
                    refine z_aald C dX2_hold_101 (by decide) rfl (by omega) (by decide) ?_
                    refine z_iload C dX2_hold_102 4 rfl ?_
                    refine z_iald C dX2_hold_104 (by omega) (zd_row (by omega)) (by omega) (by decide) (fun hr10 => ?_)
                    have hx : m9 (48 + i.toNat) j = sPar v i j := by rw [em9, zs_o _ _ (by omega)]; exact h78_2.2.1 j (by omega) (by omega)
                    rw [hx]
                    have hu := sPar_U ho (p := i) (k := j)
                    refine z_bipush C dX2_hold_105 (by decide) ?_
                    refine z_icmp_eq C dX2_hold_107 (tgt := 118) (by decide) (by omega) (by decide) (fun c11 => ?_) (fun c11 => ?_)
                    · skip
                      refine z_iinc C dX2_hold_118 4 rfl (by decide) (L' := [(0, _), (1, _), (2, _), (3, _), (4, _)]) rfl ?_
                      refine z_goto C dX2_hold_121 (tgt := 78) (by decide) ?_
                      exact ih78 _ m9 (by omega) (by omega) (zHi_alone h78_2 (by omega) (by omega) (by omega) em9) (by omega)
                    · have e21 : m9 21 i = sSlN v i j.toNat := by rw [em9, zs_o _ _ (by omega)]; exact h78_2.2.2.2
                      have e18 : m9 18 3 = sSh v i.toNat + sShN v i j.toNat := by rw [em9, zs_o _ _ (by omega)]; exact h78_2.1.2.2.1
                      have b1 := sSlN_b ho i j.toNat
                      have b2 := sSh_b v i.toNat
                      have b3 := sShN_b v i j.toNat
                      refine z_aload_n C dX2_hold_110 0 rfl ?_
                      refine z_aload_n C dX2_hold_111 1 rfl ?_
                      refine z_iload_n C dX2_hold_112 2 rfl ?_
                      refine z_iload C dX2_hold_113 4 rfl ?_
                      refine z_callVv C (c_X2_feelAndSay (zl X) m9 t ht v (zT_fr hv (fun a a0 a1 => by rw [em9, zs_ne _ _ _ (by omega)]; exact h78_2.1.1 a (by omega) (by omega) (by omega))) ho i j (sPar v i j) (by omega) (by omega) (fun k k0 k1 => by rw [em9, zs_o _ _ (by omega)]; exact h78_2.2.1 k k0 k1) rfl (by omega) (by omega) (by omega)) yyX2_feelAndSay mlX2_44 (zRc_of (i := 18) C (by decide) rfl rfl) dX2_hold_115 rfl rfl (Nat.le_of_ble_eq_true rfl) (by decide) (fun m12 hp12 => ?_)
                      obtain ⟨f1, f2, f3, f4, f5⟩ := hp12
                      refine z_iinc C dX2_hold_118 4 rfl (by decide) (L' := [(0, _), (1, _), (2, _), (3, _), (4, _)]) rfl ?_
                      refine z_goto C dX2_hold_121 (tgt := 78) (by decide) ?_
                      exact ih78 _ m12 (by omega) (by omega) (zHi_felt h78_2 (by omega) (by omega) (by omega) em9 f1 f2 f3 f4 f5) (by omega)
              exact LP78 _ _ m7 (by omega) (by omega) ⟨(by rw [em7, show sSh v i.toNat + sShN v i (0 : Int).toNat = sSh v i.toNat from Int.add_zero _]; exact zHd_slip h30_2 0), (fun k k0 k1 => by rw [em7, zs_o _ _ (by omega)]; exact h30_3 k k0 (by omega)), (fun k k0 k1 => by omega), (by rw [em7, zs_self]; rfl)⟩ (Nat.lt_succ_self _)
            · refine z_aload_n C dX2_hold_36 0 rfl ?_
              refine z_getR C ffX2_11 dX2_hold_37 (by decide) rfl rfl ?_
              refine z_iload_n C dX2_hold_40 2 rfl ?_
              refine z_aald C dX2_hold_41 (by decide) rfl (by omega) (by decide) ?_
              refine z_iload C dX2_hold_42 4 rfl ?_
              refine z_iload_n C dX2_hold_44 3 rfl ?_
              refine z_if_eq C dX2_hold_45 (tgt := 59) (by decide) (by omega) (fun c13 => ?_) (fun c13 => ?_)
              · refine z_bipush C dX2_hold_59 (by decide) ?_
                refine z_iast C dX2_hold_61 (by omega) (zd_row (by omega)) (by omega) (by decide) (by decide) ?_
                refine z_mem (fun m14 em14 => ?_)
                refine z_iinc C dX2_hold_62 4 rfl (by decide) (L' := [(0, _), (1, _), (2, _), (3, _), (4, _)]) rfl ?_
                refine z_goto C dX2_hold_65 (tgt := 30) (by decide) ?_
                exact ih30 _ m14 (by omega) (by omega) (by rw [em14]; exact zHd_row1 h30_2 (by omega) _ _) (by rw [em14]; exact zs_upto h30_3 (sPar_no (by omega)).symm) (by omega)
              · refine z_aload_n C dX2_hold_48 0 rfl ?_
                refine z_aload_n C dX2_hold_49 1 rfl ?_
                refine z_iload_n C dX2_hold_50 2 rfl ?_
                refine z_iload C dX2_hold_51 4 rfl ?_
                refine z_callVi C (c_X2_partner (zl X) mb t ht v (zT_fr hv (fun a a0 a1 => h30_2.1 a (by omega) (by omega) (by omega))) ho i j (by omega) (by omega) h30_2.2.1) yyX2_partner mlX2_40 (zRc_of (i := 18) C (by decide) rfl rfl) dX2_hold_53 rfl rfl (Nat.le_of_ble_eq_true rfl) (by decide) (fun r15 m15 hr15 hp15 => ?_)
                obtain ⟨rfl, hp15⟩ := hp15
                rw [hp15]
                refine z_goto C dX2_hold_56 (tgt := 61) (by decide) ?_
                refine z_iast C dX2_hold_61 (by omega) (zd_row (by omega)) (by omega) (by decide) (by omega) ?_
                refine z_mem (fun m16 em16 => ?_)
                refine z_iinc C dX2_hold_62 4 rfl (by decide) (L' := [(0, _), (1, _), (2, _), (3, _), (4, _)]) rfl ?_
                refine z_goto C dX2_hold_65 (tgt := 30) (by decide) ?_
                exact ih30 _ m16 (by omega) (by omega) (by rw [em16]; exact zHd_row1 h30_2 (by omega) _ _) (by rw [em16]; exact zs_upto h30_3 rfl) (by omega)
        exact LP30 _ _ ma (by omega) (by omega) h15_2 (fun k k0 k1 => by omega) (Nat.lt_succ_self _)
  exact LP15 _ _ m3 (by omega) (by omega) ⟨(fun a a1 a2 a3 => by rw [em3, zs_ne _ _ _ (by omega), em2, zs_ne _ _ _ (by omega)]), (by rw [em3, zs_o _ _ (by omega), em2, zs_self]), (by rw [em3, zs_self]; rfl), (fun p p0 p1 => by omega), (fun p k p0 p1 => by omega)⟩ (Nat.lt_succ_self _)
