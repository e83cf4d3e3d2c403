/-! contracts: Rounds, hold -/
set_option maxHeartbeats 4000000 in
theorem c_X2_feelAndSay (l : Launch) (μ : zM) (t : Nat) (ht : zTo t) (v : zVw) (hv : zT μ t v) (ho : vOK v) (p k o : Int) (hp : vTh v p) (hk : 0 ≤ k ∧ k < 5) (hpar : ∀ k, 0 ≤ k → k < 5 → μ (48 + p.toNat) k = sPar v p k) (hov : sPar v p k = o) (hno : ¬ o = -9) (hs : 0 ≤ μ 21 p ∧ μ 21 p < 32) (hsh : 0 ≤ μ 18 3 ∧ μ 18 3 ≤ 100) : zMv l yX2_feelAndSay cX2_feelAndSay 6 3 71 [.inr 18, .inr t, .inl p, .inl k] μ (fun (m : zM) => (∀ a x, ¬ (a = 58 + p.toNat ∧ x = k) → ¬ (a = 21 ∧ x = p) → ¬ (a = 18 ∧ x = 3) → m a x = μ a x) ∧ (∀ a, a < 48 → a ≠ 18 → a ≠ 21 → m a = μ a) ∧ m (58 + p.toNat) k = sFeel v p o k ∧ m 21 p = (if vB v p ≤ sFeel v p o k then zor (μ 21 p) (zbit o) else μ 21 p) ∧ m 18 3 = μ 18 3 + (if ¬ sFeel v p o k = vA v p o then 1 else 0)) := by
  refine zMv_of (own := RX2) (by decide +kernel) rfl (Nat.le_of_ble_eq_true rfl) ?_
  intro X hX C hrm E
  subst hX
  show zJ X 6 μ 0 [(0, .inr 18), (1, .inr t), (2, .inl p), (3, .inl k)] []
  obtain ⟨hv1, hv2, hv3, hv4, hv5, hv6, hv7⟩ := id hv
  obtain ⟨ho1, ho2, ho3, ho4, ho5, ho6, ho7⟩ := id ho
  have hu := sPar_U ho (p := p) (k := k)
  rw [hov] at hu
  have hpo : zU p o := by omega
  have hfb := sFeel_b ho hk hpo
  have hbb := (ho6 p (by omega) (by omega)).2
  have hvb := (hv6 p (by omega) (by omega)).2
  have hq := ho7 p o hpo
  have hzb := zor_bit (μ 21 p) hs.1 hs.2 o (by omega) (by omega)
  refine z_aload_n C dX2_feelAndSay_0 0 rfl ?_
  refine z_getR C ffX2_11 dX2_feelAndSay_1 (by decide) rfl rfl ?_
  refine z_iload_n C dX2_feelAndSay_4 2 rfl ?_
  refine z_aald C dX2_feelAndSay_5 (by decide) rfl (by omega) (by decide) ?_
  refine z_iload_n C dX2_feelAndSay_6 3 rfl ?_
  refine z_iald C dX2_feelAndSay_7 (by omega) (zd_row (by omega)) (by omega) (by decide) (fun hr1 => ?_)
  rw [hpar k (by omega) (by omega), hov]
  refine z_istore C dX2_feelAndSay_8 (by decide) (L' := [(0, _), (1, _), (2, _), (3, _), (4, _)]) rfl ?_
  refine z_aload_n C dX2_feelAndSay_10 0 rfl ?_
  refine z_aload_n C dX2_feelAndSay_11 1 rfl ?_
  refine z_iload_n C dX2_feelAndSay_12 2 rfl ?_
  refine z_iload C dX2_feelAndSay_13 4 rfl ?_
  refine z_iload_n C dX2_feelAndSay_15 3 rfl ?_
  refine z_callVi C (c_X2_feeling (zl X) μ t ht v hv ho p o k (by omega) (by omega) (by omega) hpar) yyX2_feeling mlX2_67 (zRc_of (i := 18) C (by decide) rfl rfl) dX2_feelAndSay_16 rfl rfl (Nat.le_of_ble_eq_true rfl) (by decide) (fun r2 m2 hr2 hp2 => ?_)
  obtain ⟨rfl, hp2⟩ := hp2
  rw [hp2]
  refine z_istore C dX2_feelAndSay_19 (by decide) (L' := [(0, _), (1, _), (2, _), (3, _), (4, _), (5, _)]) rfl ?_
  refine z_aload_n C dX2_feelAndSay_21 0 rfl ?_
  refine z_getR C ffX2_16 dX2_feelAndSay_22 (by decide) rfl rfl ?_
  refine z_iload_n C dX2_feelAndSay_25 2 rfl ?_
  refine z_aald C dX2_feelAndSay_26 (by decide) rfl (by omega) (by decide) ?_
  refine z_iload_n C dX2_feelAndSay_27 3 rfl ?_
  refine z_iload C dX2_feelAndSay_28 5 rfl ?_
  refine z_iast C dX2_feelAndSay_30 (by omega) (zd_row (by omega)) (by omega) (by decide) (by omega) ?_
  refine z_mem (fun m3 em3 => ?_)
  refine z_iload C dX2_feelAndSay_31 5 rfl ?_
  refine z_aload_n C dX2_feelAndSay_33 1 rfl ?_
  refine z_getR C ffX2_71 dX2_feelAndSay_34 (by have := zto_lt ht; omega) (zd_to0 ht) rfl ?_
  refine z_iload_n C dX2_feelAndSay_37 2 rfl ?_
  refine z_iald C dX2_feelAndSay_38 (by have := zto_lt ht; omega) (zd_to3 ht) (by omega) (by decide) (fun hr4 => ?_)
  have ht3 : m3 (t + 3) p = vB v p := by rw [em3, zs_o _ _ (by omega)]; exact hvb
  rw [ht3]
  refine z_icmp_lt C dX2_feelAndSay_39 (tgt := 56) (by decide) (by omega) (by omega) (fun c5 => ?_) (fun c5 => ?_)
  · refine z_iload C dX2_feelAndSay_56 5 rfl ?_
    refine z_aload_n C dX2_feelAndSay_58 1 rfl ?_
    refine z_iload_n C dX2_feelAndSay_59 2 rfl ?_
    refine z_iload C dX2_feelAndSay_60 4 rfl ?_
    refine z_callVi C (c_X4_likes (zl X) m3 t ht v (zT_fr hv (fun i i0 i1 => by rw [em3, zs_ne _ _ _ (by omega)])) ho p o (by omega)) yyX4_likes mlX2_77 (zRc_of (i := t) C (by have := zto_lt ht; omega) (zd_to0 ht) rfl) dX2_feelAndSay_62 rfl rfl (Nat.le_of_ble_eq_true rfl) (by decide) (fun r6 m6 hr6 hp6 => ?_)
    obtain ⟨rfl, hp6⟩ := hp6
    rw [hp6]
    refine z_icmp_eq C dX2_feelAndSay_65 (tgt := 78) (by decide) (by omega) (by omega) (fun c7 => ?_) (fun c7 => ?_)
    · exact E dX2_feelAndSay_78 ⟨(fun a x q1 q2 q3 => by rw [em3, zs_o _ _ (by assumption)]), (fun a q1 q2 q3 => by rw [em3, zs_ne _ _ _ (by omega)]), (by rw [em3, zs_self]), (by rw [em3, zs_o _ _ (by omega), if_neg (by omega)]), (by rw [em3, zs_o _ _ (by omega), if_neg (by omega), Int.add_zero])⟩
    · refine z_aload_n C dX2_feelAndSay_68 0 rfl ?_
      refine z_dup C dX2_feelAndSay_69 ?_
      refine z_getI C ffX2_23 dX2_feelAndSay_70 (by decide) rfl rfl 3 rfl (fun hr8 => ?_)
      have hs18 : m3 18 3 = μ 18 3 := by rw [em3, zs_o _ _ (by omega)]
      rw [hs18]
      refine z_iconst C dX2_feelAndSay_73 ?_
      refine z_iadd C dX2_feelAndSay_74 ?_
      refine z_putI C ffX2_23 fp2_3 dX2_feelAndSay_75 (by decide) rfl rfl 3 rfl (by omega) ?_
      refine z_mem (fun m9 em9 => ?_)
      exact E dX2_feelAndSay_78 ⟨(fun a x q1 q2 q3 => by rw [em9, zs_o _ _ (by assumption), em3, zs_o _ _ (by assumption)]), (fun a q1 q2 q3 => by rw [em9, zs_ne _ _ _ (by omega), em3, zs_ne _ _ _ (by omega)]), (by rw [em9, zs_o _ _ (by omega), em3, zs_self]), (by rw [em9, zs_o _ _ (by omega), em3, zs_o _ _ (by omega), if_neg (by omega)]), (by rw [em9, zs_self, if_pos (by omega)])⟩
  · refine z_aload_n C dX2_feelAndSay_42 0 rfl ?_
    refine z_getR C ffX2_19 dX2_feelAndSay_43 (by decide) rfl rfl ?_
    refine z_iload_n C dX2_feelAndSay_46 2 rfl ?_
    refine z_dup2 C dX2_feelAndSay_47 ?_
    refine z_iald C dX2_feelAndSay_48 (by decide) rfl (by omega) (by decide) (fun hr10 => ?_)
    have hs21 : m3 21 p = μ 21 p := by rw [em3, zs_o _ _ (by omega)]
    rw [hs21]
    refine z_iload C dX2_feelAndSay_49 4 rfl ?_
    refine z_callNi C (c_X5_bitOf (zl X) m3 o (by omega)) yyX5_bitOf (by decide +kernel) dX2_feelAndSay_51 rfl rfl (Nat.le_of_ble_eq_true rfl) (by decide) (fun r11 m11 hr11 hp11 => ?_)
    obtain ⟨rfl, hp11⟩ := hp11
    rw [hp11]
    refine z_ior C dX2_feelAndSay_54 ?_
    refine z_iast C dX2_feelAndSay_55 (by decide) rfl (by omega) (by decide) (by omega) ?_
    refine z_mem (fun m12 em12 => ?_)
    refine z_iload C dX2_feelAndSay_56 5 rfl ?_
    refine z_aload_n C dX2_feelAndSay_58 1 rfl ?_
    refine z_iload_n C dX2_feelAndSay_59 2 rfl ?_
    refine z_iload C dX2_feelAndSay_60 4 rfl ?_
    refine z_callVi C (c_X4_likes (zl X) m12 t ht v (zT_fr hv (fun i i0 i1 => by rw [em12, zs_ne _ _ _ (by omega), em3, zs_ne _ _ _ (by omega)])) ho p o (by omega)) yyX4_likes mlX2_77 (zRc_of (i := t) C (by have := zto_lt ht; omega) (zd_to0 ht) rfl) dX2_feelAndSay_62 rfl rfl (Nat.le_of_ble_eq_true rfl) (by decide) (fun r13 m13 hr13 hp13 => ?_)
    obtain ⟨rfl, hp13⟩ := hp13
    rw [hp13]
    refine z_icmp_eq C dX2_feelAndSay_65 (tgt := 78) (by decide) (by omega) (by omega) (fun c14 => ?_) (fun c14 => ?_)
    · exact E dX2_feelAndSay_78 ⟨(fun a x q1 q2 q3 => by rw [em12, zs_o _ _ (by assumption), em3, zs_o _ _ (by assumption)]), (fun a q1 q2 q3 => by rw [em12, zs_ne _ _ _ (by omega), em3, zs_ne _ _ _ (by omega)]), (by rw [em12, zs_o _ _ (by omega), em3, zs_self]), (by rw [em12, zs_self, if_pos (by omega)]), (by rw [em12, zs_o _ _ (by omega), em3, zs_o _ _ (by omega), if_neg (by omega), Int.add_zero])⟩
    · refine z_aload_n C dX2_feelAndSay_68 0 rfl ?_
      refine z_dup C dX2_feelAndSay_69 ?_
      refine z_getI C ffX2_23 dX2_feelAndSay_70 (by decide) rfl rfl 3 rfl (fun hr15 => ?_)
      have hs18 : m12 18 3 = μ 18 3 := by rw [em12, zs_o _ _ (by omega), em3, zs_o _ _ (by omega)]
      rw [hs18]
      refine z_iconst C dX2_feelAndSay_73 ?_
      refine z_iadd C dX2_feelAndSay_74 ?_
      refine z_putI C ffX2_23 fp2_3 dX2_feelAndSay_75 (by decide) rfl rfl 3 rfl (by omega) ?_
      refine z_mem (fun m16 em16 => ?_)
      exact E dX2_feelAndSay_78 ⟨(fun a x q1 q2 q3 => by rw [em16, zs_o _ _ (by assumption), em12, zs_o _ _ (by assumption), em3, zs_o _ _ (by assumption)]), (fun a q1 q2 q3 => by rw [em16, zs_ne _ _ _ (by omega), em12, zs_ne _ _ _ (by omega), em3, zs_ne _ _ _ (by omega)]), (by rw [em16, zs_o _ _ (by omega), em12, zs_o _ _ (by omega), em3, zs_self]), (by rw [em16, zs_o _ _ (by omega), em12, zs_self, if_pos (by omega)]), (by rw [em16, zs_self, if_pos (by omega)])⟩
