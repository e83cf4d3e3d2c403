/-! contracts: the reference: what is asked and told; who is dearest; shade; orders; pairs -/
set_option maxHeartbeats 4000000 in
theorem c_X6_letter (l : Launch) (μ : zM) (s : zS) (hs : zRf μ s) (hso : sOK s) (c : Int) (hc : zR c) : zMi l yX6_letter cX6_letter 2 (.int) 1 21 [.inr 31, .inl c] μ (fun (r : Int) (m : zM) => r = (tLetter s c).1 ∧ zRf m (tLetter s c).2 ∧ ∀ a, (a < 31 ∨ 48 ≤ a) → m a = μ a) := by
  refine zMi_of (own := RX6) (by decide +kernel) rfl (Nat.le_of_ble_eq_true rfl) ?_
  intro X hX C hrm E
  subst hX
  show zJ X 2 μ 0 [(0, .inr 31), (1, .inl c)] []
  obtain ⟨hq, hk, hi, hl, hm, hw, hf⟩ := id hs
  obtain ⟨ho, hok, hoi, hon, hot, hom, how⟩ := id hso
  generalize hgv : gV s = v at hq ho
  obtain ⟨hq1, hq2, hq3, hq4, hq5, hq6, hq7⟩ := id hq
  obtain ⟨ho1, ho2, ho3, ho4, ho5, ho6, ho7⟩ := id ho
  have hN := vN_ok ho
  obtain ⟨x1, x2, x3⟩ := id hl
  refine z_iload_n C dX6_letter_0 1 rfl ?_
  refine z_if_ge C dX6_letter_1 (tgt := 11) (by decide) (by omega) (fun c1 => ?_) (fun c1 => ?_)
  · refine z_iload_n C dX6_letter_11 1 rfl ?_
    refine z_sipush C dX6_letter_12 (by decide) ?_
    refine z_icmp_gt C dX6_letter_15 (tgt := 27) (by decide) (by omega) (by decide) (fun c2 => ?_) (fun c2 => ?_)
    · refine z_aload_n C dX6_letter_27 0 rfl ?_
      refine z_bipush C dX6_letter_28 (by decide) ?_
      refine z_callVi C (c_X6_no (zl X) μ 6 (by omega)) yyX6_no mlX6_128 (zRc_of (i := 31) C (by decide) rfl rfl) dX6_letter_30 rfl rfl (Nat.le_of_ble_eq_true rfl) (by decide) (fun r3 m3 hr3 hp3 => ?_)
      rw [hp3.1]
      exact E dX6_letter_33 (by decide) rfl (t_fin (P := zRf) (show tLetter s c = ((-6), pF s 6) by unfold tLetter; (first | rw [hgv] | skip); repeat (first | rw [if_pos (by omega)] | rw [if_neg (by omega)])) (by rw [hp3.2]; exact zRf_F hs (by omega)) (fun a _ => by rw [hp3.2, zs_ne _ _ _ (by omega)]))
    · refine z_aload_n C dX6_letter_18 0 rfl ?_
      refine z_getI C ffX6_25 dX6_letter_19 (by decide) rfl rfl 5 rfl (fun hr4 => ?_)
      rw [x1]
      refine z_bipush C dX6_letter_22 (by decide) ?_
      refine z_icmp_ne C dX6_letter_24 (tgt := 34) (by decide) (by omega) (by decide) (fun c5 => ?_) (fun c5 => ?_)
      · refine z_aload_n C dX6_letter_34 0 rfl ?_
        refine z_getR C ffX6_41 dX6_letter_35 (by decide) rfl rfl ?_
        refine z_aload_n C dX6_letter_38 0 rfl ?_
        refine z_getI C ffX6_25 dX6_letter_39 (by decide) rfl rfl 5 rfl (fun hr6 => ?_)
        rw [x1]
        refine z_iload_n C dX6_letter_42 1 rfl ?_
        refine z_iast C dX6_letter_43 (by decide) rfl (by omega) (by decide) (by omega) ?_
        refine z_mem (fun m7 em7 => ?_)
        refine z_aload_n C dX6_letter_44 0 rfl ?_
        refine z_dup C dX6_letter_45 ?_
        refine z_getI C ffX6_25 dX6_letter_46 (by decide) rfl rfl 5 rfl (fun hr8 => ?_)
        rw [show m7 31 5 = gN s by rw [em7, zs_ne _ _ _ (by omega)]; exact x1]
        refine z_iconst C dX6_letter_49 ?_
        refine z_iadd C dX6_letter_50 ?_
        refine z_putI C ffX6_25 fp6_5 dX6_letter_51 (by decide) rfl rfl 5 rfl (by omega) ?_
        refine z_mem (fun m9 em9 => ?_)
        refine z_aload_n C dX6_letter_54 0 rfl ?_
        refine z_getI C ffX6_25 dX6_letter_55 (by decide) rfl rfl 5 rfl (fun hr10 => ?_)
        rw [show m9 31 5 = gN s + 1 by rw [em9, zs_self]]
        exact E dX6_letter_58 (by omega) rfl (t_fin (P := zRf) (show tLetter s c = (gN s + 1, pT s c) by unfold tLetter; (first | rw [hgv] | skip); repeat (first | rw [if_pos (by omega)] | rw [if_neg (by omega)])) (by rw [em9, em7]; exact zRf_T hs (by omega) (by omega)) (fun a _ => by rw [em9, zs_ne _ _ _ (by omega), em7, zs_ne _ _ _ (by omega)]))
      · refine z_aload_n C dX6_letter_27 0 rfl ?_
        refine z_bipush C dX6_letter_28 (by decide) ?_
        refine z_callVi C (c_X6_no (zl X) μ 6 (by omega)) yyX6_no mlX6_128 (zRc_of (i := 31) C (by decide) rfl rfl) dX6_letter_30 rfl rfl (Nat.le_of_ble_eq_true rfl) (by decide) (fun r11 m11 hr11 hp11 => ?_)
        rw [hp11.1]
        exact E dX6_letter_33 (by decide) rfl (t_fin (P := zRf) (show tLetter s c = ((-6), pF s 6) by unfold tLetter; (first | rw [hgv] | skip); repeat (first | rw [if_pos (by omega)] | rw [if_neg (by omega)])) (by rw [hp11.2]; exact zRf_F hs (by omega)) (fun a _ => by rw [hp11.2, zs_ne _ _ _ (by omega)]))
  · refine z_aload_n C dX6_letter_4 0 rfl ?_
    refine z_bipush C dX6_letter_5 (by decide) ?_
    refine z_callVi C (c_X6_no (zl X) μ 4 (by omega)) yyX6_no mlX6_128 (zRc_of (i := 31) C (by decide) rfl rfl) dX6_letter_7 rfl rfl (Nat.le_of_ble_eq_true rfl) (by decide) (fun r12 m12 hr12 hp12 => ?_)
    rw [hp12.1]
    exact E dX6_letter_10 (by decide) rfl (t_fin (P := zRf) (show tLetter s c = ((-4), pF s 4) by unfold tLetter; (first | rw [hgv] | skip); repeat (first | rw [if_pos (by omega)] | rw [if_neg (by omega)])) (by rw [hp12.2]; exact zRf_F hs (by omega)) (fun a _ => by rw [hp12.2, zs_ne _ _ _ (by omega)]))
set_option maxHeartbeats 4000000 in
theorem c_X6_person (l : Launch) (μ : zM) (s : zS) (hs : zRf μ s) (hso : sOK s) (p w : Int) (hp : zR p) (hwr : zR w) : zMi l yX6_person cX6_person 3 (.int) 3 67 [.inr 31, .inl p, .inl w] μ (fun (r : Int) (m : zM) => r = (tPerson s p w).1 ∧ zRf m (tPerson s p w).2 ∧ ∀ a, (a < 31 ∨ 48 ≤ a) → m a = μ a) := by
  refine zMi_of (own := RX6) (by decide +kernel) rfl (Nat.le_of_ble_eq_true rfl) ?_
  intro X hX C hrm E
  subst hX
  show zJ X 3 μ 0 [(0, .inr 31), (1, .inl p), (2, .inl w)] []
  obtain ⟨hq, hk, hi, hl, hm, hw, hf⟩ := id hs
  obtain ⟨ho, hok, hoi, hon, hot, hom, how⟩ := id hso
  generalize hgv : gV s = v at hq ho
  obtain ⟨hq1, hq2, hq3, hq4, hq5, hq6, hq7⟩ := id hq
  obtain ⟨ho1, ho2, ho3, ho4, ho5, ho6, ho7⟩ := id ho
  have hN := vN_ok ho
  refine z_aload_n C dX6_person_0 0 rfl ?_
  refine z_iload_n C dX6_person_1 1 rfl ?_
  refine z_callVi C (c_X6_isPerson (zl X) μ v hq ho p (by omega)) yyX6_isPerson mlX6_124 (zRc_of (i := 31) C (by decide) rfl rfl) dX6_person_2 rfl rfl (Nat.le_of_ble_eq_true rfl) (by decide) (fun r1 m1 hr1 hp1 => ?_)
  obtain ⟨rfl, hp1⟩ := hp1
  rcases hp1 with ⟨rfl, hp1⟩ | ⟨rfl, hp1⟩
  · refine z_if_ne C dX6_person_5 (tgt := 14) (by decide) (by decide) (fun _ => ?_) (fun c2 => (by exfalso; omega))
    refine z_iload_n C dX6_person_14 2 rfl ?_
    by_cases e3_0 : w = 0
    · refine z_tabIn C dX6_person_15 (by omega) 0 (by omega) (by omega) (off := 25) (tgt := 40) rfl (by decide) ?_
      refine z_aload_n C dX6_person_40 0 rfl ?_
      refine z_getR C ffX6_31 dX6_person_41 (by decide) rfl rfl ?_
      refine z_iload_n C dX6_person_44 1 rfl ?_
      refine z_iald C dX6_person_45 (by decide) rfl (by omega) (by decide) (fun hr4 => ?_)
      rw [(hq6 p (by omega) (by omega)).1]
      have h6 := ho6 p (by omega) (by omega)
      exact E dX6_person_46 (by omega) rfl (t_fin (P := zRf) (show tPerson s p w = (vK v p, s) by unfold tPerson; (first | rw [hgv] | skip); repeat (first | rw [if_pos (by omega)] | rw [if_neg (by omega)])) hs (fun a _ => rfl))
    by_cases e3_1 : w = 1
    · refine z_tabIn C dX6_person_15 (by omega) 1 (by omega) (by omega) (off := 32) (tgt := 47) rfl (by decide) ?_
      refine z_aload_n C dX6_person_47 0 rfl ?_
      refine z_getR C ffX6_35 dX6_person_48 (by decide) rfl rfl ?_
      refine z_iload_n C dX6_person_51 1 rfl ?_
      refine z_iald C dX6_person_52 (by decide) rfl (by omega) (by decide) (fun hr5 => ?_)
      rw [(hq6 p (by omega) (by omega)).2]
      have h6 := ho6 p (by omega) (by omega)
      exact E dX6_person_53 (by omega) rfl (t_fin (P := zRf) (show tPerson s p w = (vB v p, s) by unfold tPerson; (first | rw [hgv] | skip); repeat (first | rw [if_pos (by omega)] | rw [if_neg (by omega)])) hs (fun a _ => rfl))
    by_cases e3_2 : w = 2
    · refine z_tabIn C dX6_person_15 (by omega) 2 (by omega) (by omega) (off := 39) (tgt := 54) rfl (by decide) ?_
      refine z_aload_n C dX6_person_54 0 rfl ?_
      refine z_iload_n C dX6_person_55 1 rfl ?_
      refine z_callVi C (c_X6_gapsOf (zl X) μ v hq ho p (by omega)) yyX6_gapsOf mlX6_213 (zRc_of (i := 31) C (by decide) rfl rfl) dX6_person_56 rfl rfl (Nat.le_of_ble_eq_true rfl) (by decide) (fun r6 m6 hr6 hp6 => ?_)
      obtain ⟨rfl, hp6⟩ := hp6
      rw [hp6]
      have hgb := sGap_b ho p
      exact E dX6_person_59 (by omega) rfl (t_fin (P := zRf) (show tPerson s p w = (sGap v p, s) by unfold tPerson; (first | rw [hgv] | skip); repeat (first | rw [if_pos (by omega)] | rw [if_neg (by omega)])) hs (fun a _ => rfl))
    refine z_tabOut C dX6_person_15 (by omega) (by omega) (tgt := 60) (by decide) ?_
    refine z_aload_n C dX6_person_60 0 rfl ?_
    refine z_bipush C dX6_person_61 (by decide) ?_
    refine z_callVi C (c_X6_no (zl X) μ 2 (by omega)) yyX6_no mlX6_128 (zRc_of (i := 31) C (by decide) rfl rfl) dX6_person_63 rfl rfl (Nat.le_of_ble_eq_true rfl) (by decide) (fun r7 m7 hr7 hp7 => ?_)
    rw [hp7.1]
    exact E dX6_person_66 (by decide) rfl (t_fin (P := zRf) (show tPerson s p w = ((-2), pF s 2) by unfold tPerson; (first | rw [hgv] | skip); repeat (first | rw [if_pos (by omega)] | rw [if_neg (by omega)])) (by rw [hp7.2]; exact zRf_F hs (by omega)) (fun a _ => by rw [hp7.2, zs_ne _ _ _ (by omega)]))
  · refine z_if_ne C dX6_person_5 (tgt := 14) (by decide) (by decide) (fun c8 => (by exfalso; omega)) (fun _ => ?_)
    refine z_aload_n C dX6_person_8 0 rfl ?_
    refine z_iconst C dX6_person_9 ?_
    refine z_callVi C (c_X6_no (zl X) μ 1 (by omega)) yyX6_no mlX6_128 (zRc_of (i := 31) C (by decide) rfl rfl) dX6_person_10 rfl rfl (Nat.le_of_ble_eq_true rfl) (by decide) (fun r9 m9 hr9 hp9 => ?_)
    rw [hp9.1]
    exact E dX6_person_13 (by decide) rfl (t_fin (P := zRf) (show tPerson s p w = ((-1), pF s 1) by unfold tPerson; (first | rw [hgv] | skip); repeat (first | rw [if_pos (by omega)] | rw [if_neg (by omega)])) (by rw [hp9.2]; exact zRf_F hs (by omega)) (fun a _ => by rw [hp9.2, zs_ne _ _ _ (by omega)]))
set_option maxHeartbeats 4000000 in
theorem c_X6_liking (l : Launch) (μ : zM) (s : zS) (hs : zRf μ s) (hso : sOK s) (a b : Int) (ha : zR a) (hb : zR b) : zMi l yX6_liking cX6_liking 3 (.int) 4 89 [.inr 31, .inl a, .inl b] μ (fun (r : Int) (m : zM) => r = (tLiking s a b).1 ∧ zRf m (tLiking s a b).2 ∧ ∀ a, (a < 31 ∨ 48 ≤ a) → m a = μ a) := by
  refine zMi_of (own := RX6) (by decide +kernel) rfl (Nat.le_of_ble_eq_true rfl) ?_
  intro X hX C hrm E
  subst hX
  show zJ X 3 μ 0 [(0, .inr 31), (1, .inl a), (2, .inl b)] []
  obtain ⟨hq, hk, hi, hl, hm, hw, hf⟩ := id hs
  obtain ⟨ho, hok, hoi, hon, hot, hom, how⟩ := id hso
  generalize hgv : gV s = v at hq ho
  obtain ⟨hq1, hq2, hq3, hq4, hq5, hq6, hq7⟩ := id hq
  obtain ⟨ho1, ho2, ho3, ho4, ho5, ho6, ho7⟩ := id ho
  have hN := vN_ok ho
  refine z_aload_n C dX6_liking_0 0 rfl ?_
  refine z_iload_n C dX6_liking_1 1 rfl ?_
  refine z_iload_n C dX6_liking_2 2 rfl ?_
  refine z_callVi C (c_X6_areTwo (zl X) μ v hq ho a b (by omega) (by omega)) yyX6_areTwo mlX6_216 (zRc_of (i := 31) C (by decide) rfl rfl) dX6_liking_3 rfl rfl (Nat.le_of_ble_eq_true rfl) (by decide) (fun r1 m1 hr1 hp1 => ?_)
  obtain ⟨rfl, hp1⟩ := hp1
  rcases hp1 with ⟨rfl, hp1⟩ | ⟨rfl, hp1⟩
  · refine z_if_eq C dX6_liking_6 (tgt := 18) (by decide) (by decide) (fun c2 => (by exfalso; omega)) (fun _ => ?_)
    refine z_aload_n C dX6_liking_9 0 rfl ?_
    refine z_iload_n C dX6_liking_10 1 rfl ?_
    refine z_iload_n C dX6_liking_11 2 rfl ?_
    refine z_callVi C (c_X6_likingOf (zl X) μ v hq ho a b (by omega)) yyX6_likingOf mlX6_193 (zRc_of (i := 31) C (by decide) rfl rfl) dX6_liking_12 rfl rfl (Nat.le_of_ble_eq_true rfl) (by decide) (fun r3 m3 hr3 hp3 => ?_)
    obtain ⟨rfl, hp3⟩ := hp3
    refine z_goto C dX6_liking_15 (tgt := 23) (by decide) ?_
    rw [hp3]
    have h7 := ho7 a b (by omega)
    exact E dX6_liking_23 (by omega) rfl (t_fin (P := zRf) (show tLiking s a b = (vA v a b, s) by unfold tLiking; (first | rw [hgv] | skip); repeat (first | rw [if_pos (by omega)] | rw [if_neg (by omega)])) hs (fun a _ => rfl))
  · refine z_if_eq C dX6_liking_6 (tgt := 18) (by decide) (by decide) (fun _ => ?_) (fun c4 => (by exfalso; omega))
    refine z_aload_n C dX6_liking_18 0 rfl ?_
    refine z_iconst C dX6_liking_19 ?_
    refine z_callVi C (c_X6_no (zl X) μ 1 (by omega)) yyX6_no mlX6_128 (zRc_of (i := 31) C (by decide) rfl rfl) dX6_liking_20 rfl rfl (Nat.le_of_ble_eq_true rfl) (by decide) (fun r5 m5 hr5 hp5 => ?_)
    rw [hp5.1]
    exact E dX6_liking_23 (by decide) rfl (t_fin (P := zRf) (show tLiking s a b = ((-1), pF s 1) by unfold tLiking; (first | rw [hgv] | skip); repeat (first | rw [if_pos (by omega)] | rw [if_neg (by omega)])) (by rw [hp5.2]; exact zRf_F hs (by omega)) (fun a _ => by rw [hp5.2, zs_ne _ _ _ (by omega)]))
set_option maxHeartbeats 4000000 in
theorem c_X6_like (l : Launch) (μ : zM) (s : zS) (hs : zRf μ s) (hso : sOK s) (a b z : Int) (ha : zR a) (hb : zR b) (hz : zR z) : zMi l yX6_like cX6_like 5 (.int) 4 89 [.inr 31, .inl a, .inl b, .inl z] μ (fun (r : Int) (m : zM) => r = (tLike s a b z).1 ∧ zRf m (tLike s a b z).2 ∧ ∀ a, (a < 31 ∨ 48 ≤ a) → m a = μ a) := by
  refine zMi_of (own := RX6) (by decide +kernel) rfl (Nat.le_of_ble_eq_true rfl) ?_
  intro X hX C hrm E
  subst hX
  show zJ X 5 μ 0 [(0, .inr 31), (1, .inl a), (2, .inl b), (3, .inl z)] []
  obtain ⟨hq, hk, hi, hl, hm, hw, hf⟩ := id hs
  obtain ⟨ho, hok, hoi, hon, hot, hom, how⟩ := id hso
  generalize hgv : gV s = v at hq ho
  obtain ⟨hq1, hq2, hq3, hq4, hq5, hq6, hq7⟩ := id hq
  obtain ⟨ho1, ho2, ho3, ho4, ho5, ho6, ho7⟩ := id ho
  have hN := vN_ok ho
  refine z_aload_n C dX6_like_0 0 rfl ?_
  refine z_iload_n C dX6_like_1 1 rfl ?_
  refine z_iload_n C dX6_like_2 2 rfl ?_
  refine z_callVi C (c_X6_areTwo (zl X) μ v hq ho a b (by omega) (by omega)) yyX6_areTwo mlX6_216 (zRc_of (i := 31) C (by decide) rfl rfl) dX6_like_3 rfl rfl (Nat.le_of_ble_eq_true rfl) (by decide) (fun r1 m1 hr1 hp1 => ?_)
  obtain ⟨rfl, hp1⟩ := hp1
  rcases hp1 with ⟨rfl, hp1⟩ | ⟨rfl, hp1⟩
  · refine z_if_ne C dX6_like_6 (tgt := 15) (by decide) (by decide) (fun _ => ?_) (fun c2 => (by exfalso; omega))
    refine z_iload_n C dX6_like_15 3 rfl ?_
    refine z_if_ge C dX6_like_16 (tgt := 26) (by decide) (by omega) (fun c3 => ?_) (fun c3 => ?_)
    · refine z_iload_n C dX6_like_26 3 rfl ?_
      refine z_bipush C dX6_like_27 (by decide) ?_
      refine z_icmp_le C dX6_like_29 (tgt := 39) (by decide) (by omega) (by decide) (fun c4 => ?_) (fun c4 => ?_)
      · refine z_aload_n C dX6_like_39 0 rfl ?_
        refine z_iload_n C dX6_like_40 1 rfl ?_
        refine z_iload_n C dX6_like_41 2 rfl ?_
        refine z_callVi C (c_X6_likingOf (zl X) μ v hq ho a b (by omega)) yyX6_likingOf mlX6_193 (zRc_of (i := 31) C (by decide) rfl rfl) dX6_like_42 rfl rfl (Nat.le_of_ble_eq_true rfl) (by decide) (fun r5 m5 hr5 hp5 => ?_)
        obtain ⟨rfl, hp5⟩ := hp5
        rw [hp5]
        have h7 := ho7 a b (by omega)
        refine z_istore C dX6_like_45 (by decide) (L' := [(0, _), (1, _), (2, _), (3, _), (4, _)]) rfl ?_
        refine z_aload_n C dX6_like_47 0 rfl ?_
        refine z_getR C ffX6_38 dX6_like_48 (by decide) rfl rfl ?_
        refine z_iconst C dX6_like_51 ?_
        refine z_iload_n C dX6_like_52 1 rfl ?_
        refine z_imul C dX6_like_53 ?_
        refine z_iload_n C dX6_like_54 2 rfl ?_
        refine z_iconst C dX6_like_55 ?_
        refine z_irem C dX6_like_56 (by omega) ?_
        refine z_iadd C dX6_like_57 ?_
        refine z_iload_n C dX6_like_58 3 rfl ?_
        refine z_iast C dX6_like_59 (by decide) rfl (by omega) (by decide) (by omega) ?_
        refine z_mem (fun m6 em6 => ?_)
        refine z_iload C dX6_like_60 4 rfl ?_
        exact E dX6_like_62 (by omega) rfl (t_fin (P := zRf) (show tLike s a b z = (vA v a b, pV s (vLike v a b z)) by unfold tLike; (first | rw [hgv] | skip); repeat (first | rw [if_pos (by omega)] | rw [if_neg (by omega)])) (by rw [em6]; exact zRf_V hs (zQ_like hq (by omega)) (fun a x _ => zs_o _ _ (by omega))) (fun a _ => by rw [em6, zs_ne _ _ _ (by omega)]))
      · refine z_aload_n C dX6_like_32 0 rfl ?_
        refine z_bipush C dX6_like_33 (by decide) ?_
        refine z_callVi C (c_X6_no (zl X) μ 6 (by omega)) yyX6_no mlX6_128 (zRc_of (i := 31) C (by decide) rfl rfl) dX6_like_35 rfl rfl (Nat.le_of_ble_eq_true rfl) (by decide) (fun r7 m7 hr7 hp7 => ?_)
        rw [hp7.1]
        exact E dX6_like_38 (by decide) rfl (t_fin (P := zRf) (show tLike s a b z = ((-6), pF s 6) by unfold tLike; (first | rw [hgv] | skip); repeat (first | rw [if_pos (by omega)] | rw [if_neg (by omega)])) (by rw [hp7.2]; exact zRf_F hs (by omega)) (fun a _ => by rw [hp7.2, zs_ne _ _ _ (by omega)]))
    · refine z_aload_n C dX6_like_19 0 rfl ?_
      refine z_bipush C dX6_like_20 (by decide) ?_
      refine z_callVi C (c_X6_no (zl X) μ 4 (by omega)) yyX6_no mlX6_128 (zRc_of (i := 31) C (by decide) rfl rfl) dX6_like_22 rfl rfl (Nat.le_of_ble_eq_true rfl) (by decide) (fun r8 m8 hr8 hp8 => ?_)
      rw [hp8.1]
      exact E dX6_like_25 (by decide) rfl (t_fin (P := zRf) (show tLike s a b z = ((-4), pF s 4) by unfold tLike; (first | rw [hgv] | skip); repeat (first | rw [if_pos (by omega)] | rw [if_neg (by omega)])) (by rw [hp8.2]; exact zRf_F hs (by omega)) (fun a _ => by rw [hp8.2, zs_ne _ _ _ (by omega)]))
  · refine z_if_ne C dX6_like_6 (tgt := 15) (by decide) (by decide) (fun c9 => (by exfalso; omega)) (fun _ => ?_)
    refine z_aload_n C dX6_like_9 0 rfl ?_
    refine z_iconst C dX6_like_10 ?_
    refine z_callVi C (c_X6_no (zl X) μ 1 (by omega)) yyX6_no mlX6_128 (zRc_of (i := 31) C (by decide) rfl rfl) dX6_like_11 rfl rfl (Nat.le_of_ble_eq_true rfl) (by decide) (fun r10 m10 hr10 hp10 => ?_)
    rw [hp10.1]
    exact E dX6_like_14 (by decide) rfl (t_fin (P := zRf) (show tLike s a b z = ((-1), pF s 1) by unfold tLike; (first | rw [hgv] | skip); repeat (first | rw [if_pos (by omega)] | rw [if_neg (by omega)])) (by rw [hp10.2]; exact zRf_F hs (by omega)) (fun a _ => by rw [hp10.2, zs_ne _ _ _ (by omega)]))
set_option maxHeartbeats 4000000 in
theorem c_X6_order (l : Launch) (μ : zM) (s : zS) (hs : zRf μ s) (hso : sOK s) (a b : Int) (ha : zR a) (hb : zR b) : zMi l yX6_order cX6_order 4 (.int) 1 21 [.inr 31, .inl a, .inl b] μ (fun (r : Int) (m : zM) => r = (tOrder s a b).1 ∧ zRf m (tOrder s a b).2 ∧ ∀ a, (a < 31 ∨ 48 ≤ a) → m a = μ a) := by
  refine zMi_of (own := RX6) (by decide +kernel) rfl (Nat.le_of_ble_eq_true rfl) ?_
  intro X hX C hrm E
  subst hX
  show zJ X 4 μ 0 [(0, .inr 31), (1, .inl a), (2, .inl b)] []
  obtain ⟨hq, hk, hi, hl, hm, hw, hf⟩ := id hs
  obtain ⟨ho, hok, hoi, hon, hot, hom, how⟩ := id hso
  generalize hgv : gV s = v at hq ho
  obtain ⟨hq1, hq2, hq3, hq4, hq5, hq6, hq7⟩ := id hq
  obtain ⟨ho1, ho2, ho3, ho4, ho5, ho6, ho7⟩ := id ho
  have hN := vN_ok ho
  refine z_iload_n C dX6_order_0 1 rfl ?_
  refine z_iconst C dX6_order_1 ?_
  refine z_icmp_lt C dX6_order_2 (tgt := 9) (by decide) (by omega) (by decide) (fun c1 => ?_) (fun c1 => ?_)
  · refine z_aload_n C dX6_order_9 0 rfl ?_
    refine z_bipush C dX6_order_10 (by decide) ?_
    refine z_callVi C (c_X6_no (zl X) μ 4 (by omega)) yyX6_no mlX6_128 (zRc_of (i := 31) C (by decide) rfl rfl) dX6_order_12 rfl rfl (Nat.le_of_ble_eq_true rfl) (by decide) (fun r2 m2 hr2 hp2 => ?_)
    rw [hp2.1]
    exact E dX6_order_15 (by decide) rfl (t_fin (P := zRf) (show tOrder s a b = ((-4), pF s 4) by unfold tOrder; (first | rw [hgv] | skip); repeat (first | rw [if_pos (by omega)] | rw [if_neg (by omega)])) (by rw [hp2.2]; exact zRf_F hs (by omega)) (fun a _ => by rw [hp2.2, zs_ne _ _ _ (by omega)]))
  · refine z_iload_n C dX6_order_5 2 rfl ?_
    refine z_if_ge C dX6_order_6 (tgt := 16) (by decide) (by omega) (fun c3 => ?_) (fun c3 => ?_)
    · refine z_iload_n C dX6_order_16 1 rfl ?_
      refine z_iconst C dX6_order_17 ?_
      refine z_icmp_gt C dX6_order_18 (tgt := 26) (by decide) (by omega) (by decide) (fun c4 => ?_) (fun c4 => ?_)
      · refine z_aload_n C dX6_order_26 0 rfl ?_
        refine z_bipush C dX6_order_27 (by decide) ?_
        refine z_callVi C (c_X6_no (zl X) μ 6 (by omega)) yyX6_no mlX6_128 (zRc_of (i := 31) C (by decide) rfl rfl) dX6_order_29 rfl rfl (Nat.le_of_ble_eq_true rfl) (by decide) (fun r5 m5 hr5 hp5 => ?_)
        rw [hp5.1]
        exact E dX6_order_32 (by decide) rfl (t_fin (P := zRf) (show tOrder s a b = ((-6), pF s 6) by unfold tOrder; (first | rw [hgv] | skip); repeat (first | rw [if_pos (by omega)] | rw [if_neg (by omega)])) (by rw [hp5.2]; exact zRf_F hs (by omega)) (fun a _ => by rw [hp5.2, zs_ne _ _ _ (by omega)]))
      · refine z_iload_n C dX6_order_21 2 rfl ?_
        refine z_iconst C dX6_order_22 ?_
        refine z_icmp_le C dX6_order_23 (tgt := 33) (by decide) (by omega) (by decide) (fun c6 => ?_) (fun c6 => ?_)
        · refine z_bipush C dX6_order_33 (by decide) ?_
          refine z_aload_n C dX6_order_35 0 rfl ?_
          refine z_getI C ffX6_16 dX6_order_36 (by decide) rfl rfl 2 rfl (fun hr7 => ?_)
          rw [hq3]
          refine z_imul C dX6_order_39 ?_
          refine z_aload_n C dX6_order_40 0 rfl ?_
          refine z_getI C ffX6_19 dX6_order_41 (by decide) rfl rfl 3 rfl (fun hr8 => ?_)
          rw [hq4]
          refine z_iadd C dX6_order_44 ?_
          refine z_istore_n C dX6_order_45 (by decide) (L' := [(0, _), (1, _), (2, _), (3, _)]) rfl ?_
          refine z_aload_n C dX6_order_46 0 rfl ?_
          refine z_iload_n C dX6_order_47 1 rfl ?_
          refine z_putI C ffX6_16 fp6_2 dX6_order_48 (by decide) rfl rfl 2 rfl (by omega) ?_
          refine z_mem (fun m9 em9 => ?_)
          refine z_aload_n C dX6_order_51 0 rfl ?_
          refine z_iload_n C dX6_order_52 2 rfl ?_
          refine z_putI C ffX6_19 fp6_3 dX6_order_53 (by decide) rfl rfl 3 rfl (by omega) ?_
          refine z_mem (fun m10 em10 => ?_)
          refine z_iload_n C dX6_order_56 3 rfl ?_
          exact E dX6_order_57 (by omega) rfl (t_fin (P := zRf) (show tOrder s a b = ((10 * vS v) + vH v, pV s (vOrd v a b)) by unfold tOrder; (first | rw [hgv] | skip); repeat (first | rw [if_pos (by omega)] | rw [if_neg (by omega)])) (by rw [em10, em9]; exact zRf_V hs (zQ_ord hq) (fun a x _ => by rw [zs_o _ _ (by omega), zs_o _ _ (by omega)])) (fun a _ => by rw [em10, zs_ne _ _ _ (by omega), em9, zs_ne _ _ _ (by omega)]))
        · refine z_aload_n C dX6_order_26 0 rfl ?_
          refine z_bipush C dX6_order_27 (by decide) ?_
          refine z_callVi C (c_X6_no (zl X) μ 6 (by omega)) yyX6_no mlX6_128 (zRc_of (i := 31) C (by decide) rfl rfl) dX6_order_29 rfl rfl (Nat.le_of_ble_eq_true rfl) (by decide) (fun r11 m11 hr11 hp11 => ?_)
          rw [hp11.1]
          exact E dX6_order_32 (by decide) rfl (t_fin (P := zRf) (show tOrder s a b = ((-6), pF s 6) by unfold tOrder; (first | rw [hgv] | skip); repeat (first | rw [if_pos (by omega)] | rw [if_neg (by omega)])) (by rw [hp11.2]; exact zRf_F hs (by omega)) (fun a _ => by rw [hp11.2, zs_ne _ _ _ (by omega)]))
    · refine z_aload_n C dX6_order_9 0 rfl ?_
      refine z_bipush C dX6_order_10 (by decide) ?_
      refine z_callVi C (c_X6_no (zl X) μ 4 (by omega)) yyX6_no mlX6_128 (zRc_of (i := 31) C (by decide) rfl rfl) dX6_order_12 rfl rfl (Nat.le_of_ble_eq_true rfl) (by decide) (fun r12 m12 hr12 hp12 => ?_)
      rw [hp12.1]
      exact E dX6_order_15 (by decide) rfl (t_fin (P := zRf) (show tOrder s a b = ((-4), pF s 4) by unfold tOrder; (first | rw [hgv] | skip); repeat (first | rw [if_pos (by omega)] | rw [if_neg (by omega)])) (by rw [hp12.2]; exact zRf_F hs (by omega)) (fun a _ => by rw [hp12.2, zs_ne _ _ _ (by omega)]))
set_option maxHeartbeats 4000000 in
theorem c_X6_law (l : Launch) (μ : zM) (s : zS) (hs : zRf μ s) (hso : sOK s) (w : Int) (hwr : zR w) : zMi l yX6_law cX6_law 3 (.int) 1 23 [.inr 31, .inl w] μ (fun (r : Int) (m : zM) => r = (tLaw s w).1 ∧ zRf m (tLaw s w).2 ∧ ∀ a, (a < 31 ∨ 48 ≤ a) → m a = μ a) := by
  refine zMi_of (own := RX6) (by decide +kernel) rfl (Nat.le_of_ble_eq_true rfl) ?_
  intro X hX C hrm E
  subst hX
  show zJ X 3 μ 0 [(0, .inr 31), (1, .inl w)] []
  obtain ⟨hq, hk, hi, hl, hm, hw, hf⟩ := id hs
  obtain ⟨ho, hok, hoi, hon, hot, hom, how⟩ := id hso
  generalize hgv : gV s = v at hq ho
  obtain ⟨hq1, hq2, hq3, hq4, hq5, hq6, hq7⟩ := id hq
  obtain ⟨ho1, ho2, ho3, ho4, ho5, ho6, ho7⟩ := id ho
  have hN := vN_ok ho
  refine z_aload_n C dX6_law_0 0 rfl ?_
  refine z_iload_n C dX6_law_1 1 rfl ?_
  refine z_iconst C dX6_law_2 ?_
  refine z_iconst C dX6_law_3 ?_
  refine z_callVi C (c_X6_in (zl X) μ w 0 3 (by omega) (by omega) (by omega)) yyX6_in mlX6_117 (zRc_of (i := 31) C (by decide) rfl rfl) dX6_law_4 rfl rfl (Nat.le_of_ble_eq_true rfl) (by decide) (fun r1 m1 hr1 hp1 => ?_)
  obtain ⟨rfl, hp1⟩ := hp1
  rcases hp1 with ⟨rfl, hp1⟩ | ⟨rfl, hp1⟩
  · refine z_if_ne C dX6_law_7 (tgt := 17) (by decide) (by decide) (fun _ => ?_) (fun c2 => (by exfalso; omega))
    refine z_aload_n C dX6_law_17 0 rfl ?_
    refine z_getI C ffX6_22 dX6_law_18 (by decide) rfl rfl 4 rfl (fun hr3 => ?_)
    rw [hq5]
    refine z_istore_n C dX6_law_21 (by decide) (L' := [(0, _), (1, _), (2, _)]) rfl ?_
    refine z_aload_n C dX6_law_22 0 rfl ?_
    refine z_iload_n C dX6_law_23 1 rfl ?_
    refine z_putI C ffX6_22 fp6_4 dX6_law_24 (by decide) rfl rfl 4 rfl (by omega) ?_
    refine z_mem (fun m4 em4 => ?_)
    refine z_iload_n C dX6_law_27 2 rfl ?_
    exact E dX6_law_28 (by omega) rfl (t_fin (P := zRf) (show tLaw s w = (vW v, pV s (vLaw v w)) by unfold tLaw; (first | rw [hgv] | skip); repeat (first | rw [if_pos (by omega)] | rw [if_neg (by omega)])) (by rw [em4]; exact zRf_V hs (zQ_law hq) (fun a x _ => by rw [zs_o _ _ (by omega)])) (fun a _ => by rw [em4, zs_ne _ _ _ (by omega)]))
  · refine z_if_ne C dX6_law_7 (tgt := 17) (by decide) (by decide) (fun c5 => (by exfalso; omega)) (fun _ => ?_)
    refine z_aload_n C dX6_law_10 0 rfl ?_
    refine z_bipush C dX6_law_11 (by decide) ?_
    refine z_callVi C (c_X6_no (zl X) μ 2 (by omega)) yyX6_no mlX6_128 (zRc_of (i := 31) C (by decide) rfl rfl) dX6_law_13 rfl rfl (Nat.le_of_ble_eq_true rfl) (by decide) (fun r6 m6 hr6 hp6 => ?_)
    rw [hp6.1]
    exact E dX6_law_16 (by decide) rfl (t_fin (P := zRf) (show tLaw s w = ((-2), pF s 2) by unfold tLaw; (first | rw [hgv] | skip); repeat (first | rw [if_pos (by omega)] | rw [if_neg (by omega)])) (by rw [hp6.2]; exact zRf_F hs (by omega)) (fun a _ => by rw [hp6.2, zs_ne _ _ _ (by omega)]))
set_option maxHeartbeats 4000000 in
theorem c_X6_meets (l : Launch) (μ : zM) (s : zS) (hs : zRf μ s) (hso : sOK s) (p k : Int) (hpr : zR p) (hkr : zR k) : zMi l yX6_meets cX6_meets 3 (.int) 3 67 [.inr 31, .inl p, .inl k] μ (fun (r : Int) (m : zM) => r = (tMeets s p k).1 ∧ zRf m (tMeets s p k).2 ∧ ∀ a, (a < 31 ∨ 48 ≤ a) → m a = μ a) := by
  refine zMi_of (own := RX6) (by decide +kernel) rfl (Nat.le_of_ble_eq_true rfl) ?_
  intro X hX C hrm E
  subst hX
  show zJ X 3 μ 0 [(0, .inr 31), (1, .inl p), (2, .inl k)] []
  obtain ⟨hq, hk, hi, hl, hm, hw, hf⟩ := id hs
  obtain ⟨ho, hok, hoi, hon, hot, hom, how⟩ := id hso
  generalize hgv : gV s = v at hq ho
  obtain ⟨hq1, hq2, hq3, hq4, hq5, hq6, hq7⟩ := id hq
  obtain ⟨ho1, ho2, ho3, ho4, ho5, ho6, ho7⟩ := id ho
  have hN := vN_ok ho
  refine z_aload_n C dX6_meets_0 0 rfl ?_
  refine z_iload_n C dX6_meets_1 1 rfl ?_
  refine z_callVi C (c_X6_isPerson (zl X) μ v hq ho p (by omega)) yyX6_isPerson mlX6_124 (zRc_of (i := 31) C (by decide) rfl rfl) dX6_meets_2 rfl rfl (Nat.le_of_ble_eq_true rfl) (by decide) (fun r1 m1 hr1 hp1 => ?_)
  obtain ⟨rfl, hp1⟩ := hp1
  rcases hp1 with ⟨rfl, hp1⟩ | ⟨rfl, hp1⟩
  · refine z_if_eq C dX6_meets_5 (tgt := 25) (by decide) (by decide) (fun c2 => (by exfalso; omega)) (fun _ => ?_)
    refine z_aload_n C dX6_meets_8 0 rfl ?_
    refine z_iload_n C dX6_meets_9 2 rfl ?_
    refine z_callVi C (c_X6_isRound (zl X) μ v hq ho k (by omega)) yyX6_isRound mlX6_219 (zRc_of (i := 31) C (by decide) rfl rfl) dX6_meets_10 rfl rfl (Nat.le_of_ble_eq_true rfl) (by decide) (fun r3 m3 hr3 hp3 => ?_)
    obtain ⟨rfl, hp3⟩ := hp3
    rcases hp3 with ⟨rfl, hp3⟩ | ⟨rfl, hp3⟩
    · refine z_if_eq C dX6_meets_13 (tgt := 25) (by decide) (by decide) (fun c4 => (by exfalso; omega)) (fun _ => ?_)
      refine z_aload_n C dX6_meets_16 0 rfl ?_
      refine z_iload_n C dX6_meets_17 1 rfl ?_
      refine z_iload_n C dX6_meets_18 2 rfl ?_
      refine z_callVi C (c_X6_metBy (zl X) μ v hq ho p k (by omega) (by omega)) yyX6_metBy mlX6_190 (zRc_of (i := 31) C (by decide) rfl rfl) dX6_meets_19 rfl rfl (Nat.le_of_ble_eq_true rfl) (by decide) (fun r5 m5 hr5 hp5 => ?_)
      obtain ⟨rfl, hp5⟩ := hp5
      refine z_goto C dX6_meets_22 (tgt := 30) (by decide) ?_
      rw [hp5]
      have hU := sPar_U ho (p := p) (k := k)
      exact E dX6_meets_30 (by omega) rfl (t_fin (P := zRf) (show tMeets s p k = (sPar v p k, s) by unfold tMeets; (first | rw [hgv] | skip); repeat (first | rw [if_pos (by omega)] | rw [if_neg (by omega)])) hs (fun a _ => rfl))
    · refine z_if_eq C dX6_meets_13 (tgt := 25) (by decide) (by decide) (fun _ => ?_) (fun c6 => (by exfalso; omega))
      refine z_aload_n C dX6_meets_25 0 rfl ?_
      refine z_iconst C dX6_meets_26 ?_
      refine z_callVi C (c_X6_no (zl X) μ 1 (by omega)) yyX6_no mlX6_128 (zRc_of (i := 31) C (by decide) rfl rfl) dX6_meets_27 rfl rfl (Nat.le_of_ble_eq_true rfl) (by decide) (fun r7 m7 hr7 hp7 => ?_)
      rw [hp7.1]
      exact E dX6_meets_30 (by decide) rfl (t_fin (P := zRf) (show tMeets s p k = ((-1), pF s 1) by unfold tMeets; (first | rw [hgv] | skip); repeat (first | rw [if_pos (by omega)] | rw [if_neg (by omega)])) (by rw [hp7.2]; exact zRf_F hs (by omega)) (fun a _ => by rw [hp7.2, zs_ne _ _ _ (by omega)]))
  · refine z_if_eq C dX6_meets_5 (tgt := 25) (by decide) (by decide) (fun _ => ?_) (fun c8 => (by exfalso; omega))
    refine z_aload_n C dX6_meets_25 0 rfl ?_
    refine z_iconst C dX6_meets_26 ?_
    refine z_callVi C (c_X6_no (zl X) μ 1 (by omega)) yyX6_no mlX6_128 (zRc_of (i := 31) C (by decide) rfl rfl) dX6_meets_27 rfl rfl (Nat.le_of_ble_eq_true rfl) (by decide) (fun r9 m9 hr9 hp9 => ?_)
    rw [hp9.1]
    exact E dX6_meets_30 (by decide) rfl (t_fin (P := zRf) (show tMeets s p k = ((-1), pF s 1) by unfold tMeets; (first | rw [hgv] | skip); repeat (first | rw [if_pos (by omega)] | rw [if_neg (by omega)])) (by rw [hp9.2]; exact zRf_F hs (by omega)) (fun a _ => by rw [hp9.2, zs_ne _ _ _ (by omega)]))
set_option maxHeartbeats 4000000 in
theorem c_X6_felt (l : Launch) (μ : zM) (s : zS) (hs : zRf μ s) (hso : sOK s) (p k : Int) (hpr : zR p) (hkr : zR k) : zMi l yX6_felt cX6_felt 4 (.int) 4 91 [.inr 31, .inl p, .inl k] μ (fun (r : Int) (m : zM) => r = (tFelt s p k).1 ∧ zRf m (tFelt s p k).2 ∧ ∀ a, (a < 31 ∨ 48 ≤ a) → m a = μ a) := by
  refine zMi_of (own := RX6) (by decide +kernel) rfl (Nat.le_of_ble_eq_true rfl) ?_
  intro X hX C hrm E
  subst hX
  show zJ X 4 μ 0 [(0, .inr 31), (1, .inl p), (2, .inl k)] []
  obtain ⟨hq, hk, hi, hl, hm, hw, hf⟩ := id hs
  obtain ⟨ho, hok, hoi, hon, hot, hom, how⟩ := id hso
  generalize hgv : gV s = v at hq ho
  obtain ⟨hq1, hq2, hq3, hq4, hq5, hq6, hq7⟩ := id hq
  obtain ⟨ho1, ho2, ho3, ho4, ho5, ho6, ho7⟩ := id ho
  have hN := vN_ok ho
  refine z_aload_n C dX6_felt_0 0 rfl ?_
  refine z_iload_n C dX6_felt_1 1 rfl ?_
  refine z_callVi C (c_X6_isPerson (zl X) μ v hq ho p (by omega)) yyX6_isPerson mlX6_124 (zRc_of (i := 31) C (by decide) rfl rfl) dX6_felt_2 rfl rfl (Nat.le_of_ble_eq_true rfl) (by decide) (fun r1 m1 hr1 hp1 => ?_)
  obtain ⟨rfl, hp1⟩ := hp1
  rcases hp1 with ⟨rfl, hp1⟩ | ⟨rfl, hp1⟩
  · refine z_if_eq C dX6_felt_5 (tgt := 16) (by decide) (by decide) (fun c2 => (by exfalso; omega)) (fun _ => ?_)
    refine z_aload_n C dX6_felt_8 0 rfl ?_
    refine z_iload_n C dX6_felt_9 2 rfl ?_
    refine z_callVi C (c_X6_isRound (zl X) μ v hq ho k (by omega)) yyX6_isRound mlX6_219 (zRc_of (i := 31) C (by decide) rfl rfl) dX6_felt_10 rfl rfl (Nat.le_of_ble_eq_true rfl) (by decide) (fun r3 m3 hr3 hp3 => ?_)
    obtain ⟨rfl, hp3⟩ := hp3
    rcases hp3 with ⟨rfl, hp3⟩ | ⟨rfl, hp3⟩
    · refine z_if_ne C dX6_felt_13 (tgt := 25) (by decide) (by decide) (fun _ => ?_) (fun c4 => (by exfalso; omega))
      refine z_aload_n C dX6_felt_25 0 rfl ?_
      refine z_iload_n C dX6_felt_26 1 rfl ?_
      refine z_iload_n C dX6_felt_27 2 rfl ?_
      refine z_callVi C (c_X6_metBy (zl X) μ v hq ho p k (by omega) (by omega)) yyX6_metBy mlX6_190 (zRc_of (i := 31) C (by decide) rfl rfl) dX6_felt_28 rfl rfl (Nat.le_of_ble_eq_true rfl) (by decide) (fun r5 m5 hr5 hp5 => ?_)
      obtain ⟨rfl, hp5⟩ := hp5
      rw [hp5]
      have hU := sPar_U ho (p := p) (k := k)
      have hUb := sFl_b ho (p := p) (k := k) (by omega)
      refine z_istore_n C dX6_felt_31 (by decide) (L' := [(0, _), (1, _), (2, _), (3, _)]) rfl ?_
      refine z_iload_n C dX6_felt_32 3 rfl ?_
      refine z_if_ge C dX6_felt_33 (tgt := 42) (by decide) (by omega) (fun c6 => ?_) (fun c6 => ?_)
      · refine z_aload_n C dX6_felt_42 0 rfl ?_
        refine z_iload_n C dX6_felt_43 1 rfl ?_
        refine z_iload_n C dX6_felt_44 3 rfl ?_
        refine z_iload_n C dX6_felt_45 2 rfl ?_
        refine z_callVi C (c_X6_feels (zl X) μ v hq ho p (sPar v p k) k (by omega) (by omega) (by omega)) yyX6_feels mlX6_203 (zRc_of (i := 31) C (by decide) rfl rfl) dX6_felt_46 rfl rfl (Nat.le_of_ble_eq_true rfl) (by decide) (fun r7 m7 hr7 hp7 => ?_)
        obtain ⟨rfl, hp7⟩ := hp7
        have hfl : sFl v p k = r7 := by unfold sFl; rw [if_neg (by omega), hp7]
        rw [← hfl]
        exact E dX6_felt_49 (by omega) rfl (t_fin (P := zRf) (show tFelt s p k = (sFl v p k, s) by unfold tFelt; (first | rw [hgv] | skip); repeat (first | rw [if_pos (by omega)] | rw [if_neg (by omega)])) hs (fun a _ => rfl))
      · refine z_sipush C dX6_felt_36 (by decide) ?_
        refine z_goto C dX6_felt_39 (tgt := 49) (by decide) ?_
        have hfl : sFl v p k = 999 := by unfold sFl; rw [if_pos (by omega)]
        rw [← hfl]
        exact E dX6_felt_49 (by omega) rfl (t_fin (P := zRf) (show tFelt s p k = (sFl v p k, s) by unfold tFelt; (first | rw [hgv] | skip); repeat (first | rw [if_pos (by omega)] | rw [if_neg (by omega)])) hs (fun a _ => rfl))
    · refine z_if_ne C dX6_felt_13 (tgt := 25) (by decide) (by decide) (fun c8 => (by exfalso; omega)) (fun _ => ?_)
      refine z_ldc C (n := 1000000000) dX6_felt_16 kkX6_222 ?_
      refine z_aload_n C dX6_felt_18 0 rfl ?_
      refine z_iconst C dX6_felt_19 ?_
      refine z_callVi C (c_X6_no (zl X) μ 1 (by omega)) yyX6_no mlX6_128 (zRc_of (i := 31) C (by decide) rfl rfl) dX6_felt_20 rfl rfl (Nat.le_of_ble_eq_true rfl) (by decide) (fun r9 m9 hr9 hp9 => ?_)
      rw [hp9.1]
      refine z_isub C dX6_felt_23 ?_
      rw [show (1000000000 : Int) - (-1) = 1000000001 from rfl]
      exact E dX6_felt_24 (by omega) rfl (t_fin (P := zRf) (show tFelt s p k = (1000000001, pF s 1) by unfold tFelt; (first | rw [hgv] | skip); repeat (first | rw [if_pos (by omega)] | rw [if_neg (by omega)])) (by rw [hp9.2]; exact zRf_F hs (by omega)) (fun a _ => by rw [hp9.2, zs_ne _ _ _ (by omega)]))
  · refine z_if_eq C dX6_felt_5 (tgt := 16) (by decide) (by decide) (fun _ => ?_) (fun c10 => (by exfalso; omega))
    refine z_ldc C (n := 1000000000) dX6_felt_16 kkX6_222 ?_
    refine z_aload_n C dX6_felt_18 0 rfl ?_
    refine z_iconst C dX6_felt_19 ?_
    refine z_callVi C (c_X6_no (zl X) μ 1 (by omega)) yyX6_no mlX6_128 (zRc_of (i := 31) C (by decide) rfl rfl) dX6_felt_20 rfl rfl (Nat.le_of_ble_eq_true rfl) (by decide) (fun r11 m11 hr11 hp11 => ?_)
    rw [hp11.1]
    refine z_isub C dX6_felt_23 ?_
    rw [show (1000000000 : Int) - (-1) = 1000000001 from rfl]
    exact E dX6_felt_24 (by omega) rfl (t_fin (P := zRf) (show tFelt s p k = (1000000001, pF s 1) by unfold tFelt; (first | rw [hgv] | skip); repeat (first | rw [if_pos (by omega)] | rw [if_neg (by omega)])) (by rw [hp11.2]; exact zRf_F hs (by omega)) (fun a _ => by rw [hp11.2, zs_ne _ _ _ (by omega)]))
set_option maxHeartbeats 4000000 in
theorem c_X6_yeses (l : Launch) (μ : zM) (s : zS) (hs : zRf μ s) (hso : sOK s) (p w : Int) (hpr : zR p) (hwr : zR w) : zMi l yX6_yeses cX6_yeses 3 (.int) 6 137 [.inr 31, .inl p, .inl w] μ (fun (r : Int) (m : zM) => r = (tYeses s p w).1 ∧ zRf m (tYeses s p w).2 ∧ ∀ a, (a < 31 ∨ 48 ≤ a) → m a = μ a) := by
  refine zMi_of (own := RX6) (by decide +kernel) rfl (Nat.le_of_ble_eq_true rfl) ?_
  intro X hX C hrm E
  subst hX
  show zJ X 3 μ 0 [(0, .inr 31), (1, .inl p), (2, .inl w)] []
  obtain ⟨hq, hk, hi, hl, hm, hw, hf⟩ := id hs
  obtain ⟨ho, hok, hoi, hon, hot, hom, how⟩ := id hso
  generalize hgv : gV s = v at hq ho
  obtain ⟨hq1, hq2, hq3, hq4, hq5, hq6, hq7⟩ := id hq
  obtain ⟨ho1, ho2, ho3, ho4, ho5, ho6, ho7⟩ := id ho
  have hN := vN_ok ho
  refine z_aload_n C dX6_yeses_0 0 rfl ?_
  refine z_iload_n C dX6_yeses_1 1 rfl ?_
  refine z_callVi C (c_X6_isPerson (zl X) μ v hq ho p (by omega)) yyX6_isPerson mlX6_124 (zRc_of (i := 31) C (by decide) rfl rfl) dX6_yeses_2 rfl rfl (Nat.le_of_ble_eq_true rfl) (by decide) (fun r1 m1 hr1 hp1 => ?_)
  obtain ⟨rfl, hp1⟩ := hp1
  rcases hp1 with ⟨rfl, hp1⟩ | ⟨rfl, hp1⟩
  · refine z_if_ne C dX6_yeses_5 (tgt := 14) (by decide) (by decide) (fun _ => ?_) (fun c2 => (by exfalso; omega))
    refine z_iload_n C dX6_yeses_14 2 rfl ?_
    refine z_if_ne C dX6_yeses_15 (tgt := 26) (by decide) (by omega) (fun c3 => ?_) (fun c3 => ?_)
    · refine z_iload_n C dX6_yeses_26 2 rfl ?_
      refine z_iconst C dX6_yeses_27 ?_
      refine z_icmp_ne C dX6_yeses_28 (tgt := 39) (by decide) (by omega) (by decide) (fun c4 => ?_) (fun c4 => ?_)
      · refine z_aload_n C dX6_yeses_39 0 rfl ?_
        refine z_bipush C dX6_yeses_40 (by decide) ?_
        refine z_callVi C (c_X6_no (zl X) μ 2 (by omega)) yyX6_no mlX6_128 (zRc_of (i := 31) C (by decide) rfl rfl) dX6_yeses_42 rfl rfl (Nat.le_of_ble_eq_true rfl) (by decide) (fun r5 m5 hr5 hp5 => ?_)
        rw [hp5.1]
        exact E dX6_yeses_45 (by decide) rfl (t_fin (P := zRf) (show tYeses s p w = ((-2), pF s 2) by unfold tYeses; (first | rw [hgv] | skip); repeat (first | rw [if_pos (by omega)] | rw [if_neg (by omega)])) (by rw [hp5.2]; exact zRf_F hs (by omega)) (fun a _ => by rw [hp5.2, zs_ne _ _ _ (by omega)]))
      · refine z_aload_n C dX6_yeses_31 0 rfl ?_
        refine z_iload_n C dX6_yeses_32 1 rfl ?_
        refine z_callVi C (c_X6_yesesTo (zl X) μ v hq ho p (by omega)) yyX6_yesesTo mlX6_226 (zRc_of (i := 31) C (by decide) rfl rfl) dX6_yeses_33 rfl rfl (Nat.le_of_ble_eq_true rfl) (by decide) (fun r6 m6 hr6 hp6 => ?_)
        obtain ⟨rfl, hp6⟩ := hp6
        rw [hp6]
        have hU := sToN_b v p 5 (by omega)
        refine z_goto C dX6_yeses_36 (tgt := 45) (by decide) ?_
        exact E dX6_yeses_45 (by omega) rfl (t_fin (P := zRf) (show tYeses s p w = ((sToN v p 5), s) by unfold tYeses; (first | rw [hgv] | skip); repeat (first | rw [if_pos (by omega)] | rw [if_neg (by omega)])) hs (fun a _ => rfl))
    · refine z_aload_n C dX6_yeses_18 0 rfl ?_
      refine z_iload_n C dX6_yeses_19 1 rfl ?_
      refine z_callVi C (c_X6_yesesOf (zl X) μ v hq ho p (by omega)) yyX6_yesesOf mlX6_223 (zRc_of (i := 31) C (by decide) rfl rfl) dX6_yeses_20 rfl rfl (Nat.le_of_ble_eq_true rfl) (by decide) (fun r7 m7 hr7 hp7 => ?_)
      obtain ⟨rfl, hp7⟩ := hp7
      rw [hp7]
      have hU : 0 ≤ sSl v p ∧ sSl v p < 32 := sSlN_b ho p 5
      refine z_goto C dX6_yeses_23 (tgt := 45) (by decide) ?_
      exact E dX6_yeses_45 (by omega) rfl (t_fin (P := zRf) (show tYeses s p w = ((sSl v p), s) by unfold tYeses; (first | rw [hgv] | skip); repeat (first | rw [if_pos (by omega)] | rw [if_neg (by omega)])) hs (fun a _ => rfl))
  · refine z_if_ne C dX6_yeses_5 (tgt := 14) (by decide) (by decide) (fun c8 => (by exfalso; omega)) (fun _ => ?_)
    refine z_aload_n C dX6_yeses_8 0 rfl ?_
    refine z_iconst C dX6_yeses_9 ?_
    refine z_callVi C (c_X6_no (zl X) μ 1 (by omega)) yyX6_no mlX6_128 (zRc_of (i := 31) C (by decide) rfl rfl) dX6_yeses_10 rfl rfl (Nat.le_of_ble_eq_true rfl) (by decide) (fun r9 m9 hr9 hp9 => ?_)
    rw [hp9.1]
    exact E dX6_yeses_13 (by decide) rfl (t_fin (P := zRf) (show tYeses s p w = ((-1), pF s 1) by unfold tYeses; (first | rw [hgv] | skip); repeat (first | rw [if_pos (by omega)] | rw [if_neg (by omega)])) (by rw [hp9.2]; exact zRf_F hs (by omega)) (fun a _ => by rw [hp9.2, zs_ne _ _ _ (by omega)]))
set_option maxHeartbeats 4000000 in
theorem c_X6_dearest (l : Launch) (μ : zM) (v : zVw) (hq : zQ μ v) (ho : vOK v) (p z : Int) (hp : 0 ≤ p ∧ p < 10) (hz : 0 ≤ z ∧ z < 32) : zMi l yX6_dearest cX6_dearest 5 (.int) 1 22 [.inr 31, .inl p, .inl z] μ (fun (r : Int) (m : zM) => μ = m ∧ r = if sFav v p z = -9 then -1 else sFav v p z % 5) := by
  refine zMi_of (own := RX6) (by decide +kernel) rfl (Nat.le_of_ble_eq_true rfl) ?_
  intro X hX C hrm E
  subst hX
  show zJ X 5 μ 0 [(0, .inr 31), (1, .inl p), (2, .inl z)] []
  obtain ⟨hq1, hq2, hq3, hq4, hq5, hq6, hq7⟩ := id hq
  obtain ⟨ho1, ho2, ho3, ho4, ho5, ho6, ho7⟩ := id ho
  have hN := vN_ok ho
  refine z_iconst C dX6_dearest_0 ?_
  refine z_istore_n C dX6_dearest_1 (by decide) (L' := [(0, _), (1, _), (2, _), (3, _)]) rfl ?_
  refine z_iconst C dX6_dearest_2 ?_
  refine z_istore C dX6_dearest_3 (by decide) (L' := [(0, _), (1, _), (2, _), (3, _), (4, _)]) rfl ?_
  have LP5 : ∀ (N5 : Nat) (d : Int) (n : Int), (0 ≤ n) → (n ≤ 5) → ((d = -1 ∧ sFavN v p z n.toNat = -9) ∨ (0 ≤ d ∧ d < n ∧ sFavN v p z n.toNat = sOth p d)) → (6 - n).toNat < N5 → zJ X 5 μ 5 [(0, .inr 31), (1, .inl p), (2, .inl z), (3, .inl d), (4, .inl n)] [] := by
    intro N5
    induction N5 with
    | zero => intro d n h5_0 h5_1 h5_2 hN; exact absurd hN (Nat.not_lt_zero _)
    | succ N5 ih5 =>
      intro d n h5_0 h5_1 h5_2 hN5
      have hs1 := sFavN_s v p z (j := n) (by omega)
      rw [zbit_o] at hs1
      refine z_iload C dX6_dearest_5 4 rfl ?_
      refine z_iconst C dX6_dearest_7 ?_
      refine z_icmp_ge C dX6_dearest_8 (tgt := 58) (by decide) (by omega) (by decide) (fun c1 => ?_) (fun c1 => ?_)
      · refine z_iload_n C dX6_dearest_58 3 rfl ?_
        exact E dX6_dearest_59 (by omega) rfl ⟨rfl, (by have e : n.toNat = 5 := (by omega); rw [e] at h5_2; exact dr_end hp (by omega))⟩
      · refine z_aload_n C dX6_dearest_11 0 rfl ?_
        refine z_iload_n C dX6_dearest_12 2 rfl ?_
        refine z_iload C dX6_dearest_13 4 rfl ?_
        refine z_callVi C (c_X6_has (zl X) μ z n (by omega) (by omega)) yyX6_has mlX6_229 (zRc_of (i := 31) C (by decide) rfl rfl) dX6_dearest_15 rfl rfl (Nat.le_of_ble_eq_true rfl) (by decide) (fun r2 m2 hr2 hp2 => ?_)
        obtain ⟨rfl, hp2⟩ := hp2
        rcases hp2 with ⟨rfl, hp2⟩ | ⟨rfl, hp2⟩
        · have hgh := hp2
          refine z_if_eq C dX6_dearest_18 (tgt := 52) (by decide) (by decide) (fun c3 => (by exfalso; omega)) (fun _ => ?_)
          refine z_iload_n C dX6_dearest_21 3 rfl ?_
          refine z_if_lt C dX6_dearest_22 (tgt := 49) (by decide) (by omega) (fun c4 => ?_) (fun c4 => ?_)
          · refine z_iload C dX6_dearest_49 4 rfl ?_
            refine z_istore_n C dX6_dearest_51 (by decide) (L' := [(0, _), (1, _), (2, _), (3, _), (4, _)]) rfl ?_
            refine z_iinc C dX6_dearest_52 4 rfl (by decide) (L' := [(0, _), (1, _), (2, _), (3, _), (4, _)]) rfl ?_
            refine z_goto C dX6_dearest_55 (tgt := 5) (by decide) ?_
            exact ih5 _ _ (by omega) (by omega) (by rw [hs1, if_pos ⟨hgh, Or.inl (by omega)⟩]; omega) (by omega)
          · have hfd : sFavN v p z n.toNat = sOth p d := by omega
            have hod := sOth_b hp (j := d) (by omega)
            refine z_aload_n C dX6_dearest_25 0 rfl ?_
            refine z_getR C ffX6_38 dX6_dearest_26 (by decide) rfl rfl ?_
            refine z_iconst C dX6_dearest_29 ?_
            refine z_iload_n C dX6_dearest_30 1 rfl ?_
            refine z_imul C dX6_dearest_31 ?_
            refine z_iload C dX6_dearest_32 4 rfl ?_
            refine z_iadd C dX6_dearest_34 ?_
            refine z_iald C dX6_dearest_35 (by decide) rfl (by omega) (by decide) (fun hr5 => ?_)
            rw [lk_o hq hp (by omega) (by omega)]
            have h71 := ho7 p (sOth p n) (sOth_b hp (by omega)).1
            refine z_aload_n C dX6_dearest_36 0 rfl ?_
            refine z_getR C ffX6_38 dX6_dearest_37 (by decide) rfl rfl ?_
            refine z_iconst C dX6_dearest_40 ?_
            refine z_iload_n C dX6_dearest_41 1 rfl ?_
            refine z_imul C dX6_dearest_42 ?_
            refine z_iload_n C dX6_dearest_43 3 rfl ?_
            refine z_iadd C dX6_dearest_44 ?_
            refine z_iald C dX6_dearest_45 (by decide) rfl (by omega) (by decide) (fun hr6 => ?_)
            rw [lk_o hq hp (by omega) (by omega)]
            have h72 := ho7 p (sOth p d) (sOth_b hp (by omega)).1
            refine z_icmp_le C dX6_dearest_46 (tgt := 52) (by decide) (by omega) (by omega) (fun c7 => ?_) (fun c7 => ?_)
            · refine z_iinc C dX6_dearest_52 4 rfl (by decide) (L' := [(0, _), (1, _), (2, _), (3, _), (4, _)]) rfl ?_
              refine z_goto C dX6_dearest_55 (tgt := 5) (by decide) ?_
              exact ih5 _ _ (by omega) (by omega) (by rw [hs1, if_neg (fun y => by have y2 := y.2; rw [hfd] at y2; omega)]; omega) (by omega)
            · refine z_iload C dX6_dearest_49 4 rfl ?_
              refine z_istore_n C dX6_dearest_51 (by decide) (L' := [(0, _), (1, _), (2, _), (3, _), (4, _)]) rfl ?_
              refine z_iinc C dX6_dearest_52 4 rfl (by decide) (L' := [(0, _), (1, _), (2, _), (3, _), (4, _)]) rfl ?_
              refine z_goto C dX6_dearest_55 (tgt := 5) (by decide) ?_
              exact ih5 _ _ (by omega) (by omega) (by rw [hs1, if_pos ⟨hgh, Or.inr (by rw [hfd]; omega)⟩]; omega) (by omega)
        · have hgh := hp2
          refine z_if_eq C dX6_dearest_18 (tgt := 52) (by decide) (by decide) (fun _ => ?_) (fun c8 => (by exfalso; omega))
          refine z_iinc C dX6_dearest_52 4 rfl (by decide) (L' := [(0, _), (1, _), (2, _), (3, _), (4, _)]) rfl ?_
          refine z_goto C dX6_dearest_55 (tgt := 5) (by decide) ?_
          exact ih5 _ _ (by omega) (by omega) (by rw [hs1, if_neg (fun y => hgh y.1)]; omega) (by omega)
  exact LP5 _ (-1) 0 (by omega) (by omega) (Or.inl ⟨rfl, rfl⟩) (Nat.lt_succ_self _)
set_option maxHeartbeats 4000000 in
theorem c_X6_isRather (l : Launch) (μ : zM) (v : zVw) (hq : zQ μ v) (ho : vOK v) (p a b : Int) (hp : 0 ≤ p ∧ p < 10) (ha : 0 ≤ a ∧ a < 5) (hb : 0 ≤ b ∧ b < 5) : zMi l yX6_isRather cX6_isRather 4 (.boolean) 0 0 [.inr 31, .inl p, .inl a, .inl b] μ (fun (r : Int) (m : zM) => μ = m ∧ ((r = 1 ∧ (sBef v p (sOth p a) (sOth p b))) ∨ (r = 0 ∧ ¬ (sBef v p (sOth p a) (sOth p b))))) := by
  refine zMi_of (own := RX6) (by decide +kernel) rfl (Nat.le_of_ble_eq_true rfl) ?_
  intro X hX C hrm E
  subst hX
  show zJ X 4 μ 0 [(0, .inr 31), (1, .inl p), (2, .inl a), (3, .inl b)] []
  obtain ⟨hq1, hq2, hq3, hq4, hq5, hq6, hq7⟩ := id hq
  obtain ⟨ho1, ho2, ho3, ho4, ho5, ho6, ho7⟩ := id ho
  have hN := vN_ok ho
  have h71 := ho7 p (sOth p a) (sOth_b hp ha).1
  have h72 := ho7 p (sOth p b) (sOth_b hp hb).1
  have hmo : sOth p a < sOth p b ↔ a < b := by unfold sOth; split <;> omega
  refine z_aload_n C dX6_isRather_0 0 rfl ?_
  refine z_getR C ffX6_38 dX6_isRather_1 (by decide) rfl rfl ?_
  refine z_iconst C dX6_isRather_4 ?_
  refine z_iload_n C dX6_isRather_5 1 rfl ?_
  refine z_imul C dX6_isRather_6 ?_
  refine z_iload_n C dX6_isRather_7 2 rfl ?_
  refine z_iadd C dX6_isRather_8 ?_
  refine z_iald C dX6_isRather_9 (by decide) rfl (by omega) (by decide) (fun hr1 => ?_)
  rw [lk_o hq hp (by omega) (by omega)]
  refine z_aload_n C dX6_isRather_10 0 rfl ?_
  refine z_getR C ffX6_38 dX6_isRather_11 (by decide) rfl rfl ?_
  refine z_iconst C dX6_isRather_14 ?_
  refine z_iload_n C dX6_isRather_15 1 rfl ?_
  refine z_imul C dX6_isRather_16 ?_
  refine z_iload_n C dX6_isRather_17 3 rfl ?_
  refine z_iadd C dX6_isRather_18 ?_
  refine z_iald C dX6_isRather_19 (by decide) rfl (by omega) (by decide) (fun hr2 => ?_)
  rw [lk_o hq hp (by omega) (by omega)]
  refine z_icmp_gt C dX6_isRather_20 (tgt := 51) (by decide) (by omega) (by omega) (fun c3 => ?_) (fun c3 => ?_)
  · refine z_iconst C dX6_isRather_51 ?_
    refine z_goto C dX6_isRather_52 (tgt := 56) (by decide) ?_
    exact E dX6_isRather_56 (by decide) (z_nb (Or.inr rfl)) ⟨rfl, Or.inl ⟨rfl, by omega⟩⟩
  · refine z_aload_n C dX6_isRather_23 0 rfl ?_
    refine z_getR C ffX6_38 dX6_isRather_24 (by decide) rfl rfl ?_
    refine z_iconst C dX6_isRather_27 ?_
    refine z_iload_n C dX6_isRather_28 1 rfl ?_
    refine z_imul C dX6_isRather_29 ?_
    refine z_iload_n C dX6_isRather_30 2 rfl ?_
    refine z_iadd C dX6_isRather_31 ?_
    refine z_iald C dX6_isRather_32 (by decide) rfl (by omega) (by decide) (fun hr4 => ?_)
    rw [lk_o hq hp (by omega) (by omega)]
    refine z_aload_n C dX6_isRather_33 0 rfl ?_
    refine z_getR C ffX6_38 dX6_isRather_34 (by decide) rfl rfl ?_
    refine z_iconst C dX6_isRather_37 ?_
    refine z_iload_n C dX6_isRather_38 1 rfl ?_
    refine z_imul C dX6_isRather_39 ?_
    refine z_iload_n C dX6_isRather_40 3 rfl ?_
    refine z_iadd C dX6_isRather_41 ?_
    refine z_iald C dX6_isRather_42 (by decide) rfl (by omega) (by decide) (fun hr5 => ?_)
    rw [lk_o hq hp (by omega) (by omega)]
    refine z_icmp_ne C dX6_isRather_43 (tgt := 55) (by decide) (by omega) (by omega) (fun c6 => ?_) (fun c6 => ?_)
    · refine z_iconst C dX6_isRather_55 ?_
      exact E dX6_isRather_56 (by decide) (z_nb (Or.inl rfl)) ⟨rfl, Or.inr ⟨rfl, by omega⟩⟩
    · refine z_iload_n C dX6_isRather_46 2 rfl ?_
      refine z_iload_n C dX6_isRather_47 3 rfl ?_
      refine z_icmp_ge C dX6_isRather_48 (tgt := 55) (by decide) (by omega) (by omega) (fun c7 => ?_) (fun c7 => ?_)
      · refine z_iconst C dX6_isRather_55 ?_
        exact E dX6_isRather_56 (by decide) (z_nb (Or.inl rfl)) ⟨rfl, Or.inr ⟨rfl, by omega⟩⟩
      · refine z_iconst C dX6_isRather_51 ?_
        refine z_goto C dX6_isRather_52 (tgt := 56) (by decide) ?_
        exact E dX6_isRather_56 (by decide) (z_nb (Or.inr rfl)) ⟨rfl, Or.inl ⟨rfl, by omega⟩⟩
set_option maxHeartbeats 4000000 in
theorem c_X6_shadedNow (l : Launch) (μ : zM) (v : zVw) (hq : zQ μ v) (ho : vOK v) : zMi l yX6_shadedNow cX6_shadedNow 5 (.int) 4 91 [.inr 31] μ (fun (r : Int) (m : zM) => μ = m ∧ r = sSh v 10) := by
  refine zMi_of (own := RX6) (by decide +kernel) rfl (Nat.le_of_ble_eq_true rfl) ?_
  intro X hX C hrm E
  subst hX
  show zJ X 5 μ 0 [(0, .inr 31)] []
  obtain ⟨hq1, hq2, hq3, hq4, hq5, hq6, hq7⟩ := id hq
  obtain ⟨ho1, ho2, ho3, ho4, ho5, ho6, ho7⟩ := id ho
  have hN := vN_ok ho
  refine z_iconst C dX6_shadedNow_0 ?_
  refine z_istore_n C dX6_shadedNow_1 (by decide) (L' := [(0, _), (1, _)]) rfl ?_
  refine z_iconst C dX6_shadedNow_2 ?_
  refine z_istore_n C dX6_shadedNow_3 (by decide) (L' := [(0, _), (1, _), (2, _)]) rfl ?_
  have LP4 : ∀ (N4 : Nat) (z : Int) (p : Int), (0 ≤ p) → (p ≤ 10) → (z = sSh v p.toNat) → (11 - p).toNat < N4 → zJ X 5 μ 4 [(0, .inr 31), (1, .inl z), (2, .inl p)] [] := by
    intro N4
    induction N4 with
    | zero => intro z p h4_0 h4_1 h4_2 hN; exact absurd hN (Nat.not_lt_zero _)
    | succ N4 ih4 =>
      intro z p h4_0 h4_1 h4_2 hN4
      have hsb := sSh_b v p.toNat
      refine z_iload_n C dX6_shadedNow_4 2 rfl ?_
      refine z_bipush C dX6_shadedNow_5 (by decide) ?_
      refine z_icmp_ge C dX6_shadedNow_7 (tgt := 79) (by decide) (by omega) (by decide) (fun c1 => ?_) (fun c1 => ?_)
      · refine z_iload_n C dX6_shadedNow_79 1 rfl ?_
        exact E dX6_shadedNow_80 (by omega) rfl ⟨rfl, (by rw [h4_2, show p.toNat = 10 by omega])⟩
      · refine z_iconst C dX6_shadedNow_10 ?_
        refine z_istore_n C dX6_shadedNow_11 (by decide) (L' := [(0, _), (1, _), (2, _), (3, _)]) rfl ?_
        have LP12 : ∀ (N12 : Nat) (y : Int) (k : Int), (0 ≤ k) → (k ≤ vN v) → (y = sSh v p.toNat + sShN v p k.toNat) → (6 - k).toNat < N12 → zJ X 5 μ 12 [(0, .inr 31), (1, .inl y), (2, .inl p), (3, .inl k)] [] := by
          intro N12
          induction N12 with
          | zero => intro y k h12_0 h12_1 h12_2 hN; exact absurd hN (Nat.not_lt_zero _)
          | succ N12 ih12 =>
            intro y k h12_0 h12_1 h12_2 hN12
            have hnb := sShN_b v p k.toNat
            refine z_iload_n C dX6_shadedNow_12 3 rfl ?_
            refine z_aload_n C dX6_shadedNow_13 0 rfl ?_
            refine z_callVi C (c_X6_roundsNow (zl X) μ v hq ho) yyX6_roundsNow mlX6_187 (zRc_of (i := 31) C (by decide) rfl rfl) dX6_shadedNow_14 rfl rfl (Nat.le_of_ble_eq_true rfl) (by decide) (fun r2 m2 hr2 hp2 => ?_)
            obtain ⟨rfl, hp2⟩ := hp2
            rw [hp2]
            refine z_icmp_ge C dX6_shadedNow_17 (tgt := 73) (by decide) (by omega) (by omega) (fun c3 => ?_) (fun c3 => ?_)
            · refine z_iinc C dX6_shadedNow_73 2 rfl (by decide) (L' := [(0, _), (1, _), (2, _), (3, _)]) rfl ?_
              refine z_goto C dX6_shadedNow_76 (tgt := 4) (by decide) ?_
              refine z_sub [0, 1, 2] rfl ?_; exact ih4 _ _ (by omega) (by omega) (by rw [sSh_s v (by omega), h12_2, sShN_5 ho (k := k) (by omega) (by omega)]) (by omega)
            · refine z_aload_n C dX6_shadedNow_20 0 rfl ?_
              refine z_iload_n C dX6_shadedNow_21 2 rfl ?_
              refine z_callVi C (c_X6_isPerson (zl X) μ v hq ho p (by omega)) yyX6_isPerson mlX6_124 (zRc_of (i := 31) C (by decide) rfl rfl) dX6_shadedNow_22 rfl rfl (Nat.le_of_ble_eq_true rfl) (by decide) (fun r4 m4 hr4 hp4 => ?_)
              obtain ⟨rfl, hp4⟩ := hp4
              rcases hp4 with ⟨rfl, hp4⟩ | ⟨rfl, hp4⟩
              · refine z_if_eq C dX6_shadedNow_25 (tgt := 73) (by decide) (by decide) (fun c5 => (by exfalso; omega)) (fun _ => ?_)
                refine z_aload_n C dX6_shadedNow_28 0 rfl ?_
                refine z_iload_n C dX6_shadedNow_29 2 rfl ?_
                refine z_iload_n C dX6_shadedNow_30 3 rfl ?_
                refine z_callVi C (c_X6_metBy (zl X) μ v hq ho p k (by omega) (by omega)) yyX6_metBy mlX6_190 (zRc_of (i := 31) C (by decide) rfl rfl) dX6_shadedNow_31 rfl rfl (Nat.le_of_ble_eq_true rfl) (by decide) (fun r6 m6 hr6 hp6 => ?_)
                obtain ⟨rfl, hp6⟩ := hp6
                rw [hp6]
                have hU := sPar_U ho (p := p) (k := k)
                refine z_istore C dX6_shadedNow_34 (by decide) (L' := [(0, _), (1, _), (2, _), (3, _), (4, _)]) rfl ?_
                refine z_iload_n C dX6_shadedNow_36 1 rfl ?_
                refine z_iload C dX6_shadedNow_37 4 rfl ?_
                refine z_if_lt C dX6_shadedNow_39 (tgt := 64) (by decide) (by omega) (fun c7 => ?_) (fun c7 => ?_)
                · refine z_iconst C dX6_shadedNow_64 ?_
                  refine z_iadd C dX6_shadedNow_65 ?_
                  refine z_istore_n C dX6_shadedNow_66 (by decide) (L' := [(0, _), (1, _), (2, _), (3, _), (4, _)]) rfl ?_
                  refine z_iinc C dX6_shadedNow_67 3 rfl (by decide) (L' := [(0, _), (1, _), (2, _), (3, _), (4, _)]) rfl ?_
                  refine z_goto C dX6_shadedNow_70 (tgt := 12) (by decide) ?_
                  refine z_sub [0, 1, 2, 3] rfl ?_; exact ih12 _ _ (by omega) (by omega) (by rw [sShN_s v p (by omega), h12_2, if_neg (fun x => by omega)]; omega) (by omega)
                · refine z_aload_n C dX6_shadedNow_42 0 rfl ?_
                  refine z_iload_n C dX6_shadedNow_43 2 rfl ?_
                  refine z_iload C dX6_shadedNow_44 4 rfl ?_
                  refine z_iload_n C dX6_shadedNow_46 3 rfl ?_
                  refine z_callVi C (c_X6_feels (zl X) μ v hq ho p (sPar v p k) k (by omega) (by omega) (by omega)) yyX6_feels mlX6_203 (zRc_of (i := 31) C (by decide) rfl rfl) dX6_shadedNow_47 rfl rfl (Nat.le_of_ble_eq_true rfl) (by decide) (fun r8 m8 hr8 hp8 => ?_)
                  obtain ⟨rfl, hp8⟩ := hp8
                  rw [hp8]
                  have hfb := sFeel_b ho (p := p) (o := sPar v p k) (k := k) (by omega) (by omega)
                  refine z_aload_n C dX6_shadedNow_50 0 rfl ?_
                  refine z_iload_n C dX6_shadedNow_51 2 rfl ?_
                  refine z_iload C dX6_shadedNow_52 4 rfl ?_
                  refine z_callVi C (c_X6_likingOf (zl X) μ v hq ho p (sPar v p k) (by omega)) yyX6_likingOf mlX6_193 (zRc_of (i := 31) C (by decide) rfl rfl) dX6_shadedNow_54 rfl rfl (Nat.le_of_ble_eq_true rfl) (by decide) (fun r9 m9 hr9 hp9 => ?_)
                  obtain ⟨rfl, hp9⟩ := hp9
                  rw [hp9]
                  have h7 := ho7 p (sPar v p k) (by omega)
                  refine z_icmp_eq C dX6_shadedNow_57 (tgt := 64) (by decide) (by omega) (by omega) (fun c10 => ?_) (fun c10 => ?_)
                  · refine z_iconst C dX6_shadedNow_64 ?_
                    refine z_iadd C dX6_shadedNow_65 ?_
                    refine z_istore_n C dX6_shadedNow_66 (by decide) (L' := [(0, _), (1, _), (2, _), (3, _), (4, _)]) rfl ?_
                    refine z_iinc C dX6_shadedNow_67 3 rfl (by decide) (L' := [(0, _), (1, _), (2, _), (3, _), (4, _)]) rfl ?_
                    refine z_goto C dX6_shadedNow_70 (tgt := 12) (by decide) ?_
                    refine z_sub [0, 1, 2, 3] rfl ?_; exact ih12 _ _ (by omega) (by omega) (by rw [sShN_s v p (by omega), h12_2, if_neg (fun x => by omega)]; omega) (by omega)
                  · refine z_iconst C dX6_shadedNow_60 ?_
                    refine z_goto C dX6_shadedNow_61 (tgt := 65) (by decide) ?_
                    refine z_iadd C dX6_shadedNow_65 ?_
                    refine z_istore_n C dX6_shadedNow_66 (by decide) (L' := [(0, _), (1, _), (2, _), (3, _), (4, _)]) rfl ?_
                    refine z_iinc C dX6_shadedNow_67 3 rfl (by decide) (L' := [(0, _), (1, _), (2, _), (3, _), (4, _)]) rfl ?_
                    refine z_goto C dX6_shadedNow_70 (tgt := 12) (by decide) ?_
                    refine z_sub [0, 1, 2, 3] rfl ?_; exact ih12 _ _ (by omega) (by omega) (by rw [sShN_s v p (by omega), h12_2, if_pos ⟨by omega, by omega⟩]; omega) (by omega)
              · refine z_if_eq C dX6_shadedNow_25 (tgt := 73) (by decide) (by decide) (fun _ => ?_) (fun c11 => (by exfalso; omega))
                refine z_iinc C dX6_shadedNow_73 2 rfl (by decide) (L' := [(0, _), (1, _), (2, _), (3, _)]) rfl ?_
                refine z_goto C dX6_shadedNow_76 (tgt := 4) (by decide) ?_
                refine z_sub [0, 1, 2] rfl ?_; exact ih4 _ _ (by omega) (by omega) (by rw [sSh_s v (by omega), h12_2, sShN_5 ho (k := k) (by omega) (by omega)]) (by omega)
        exact LP12 _ z 0 (by omega) (by omega) (by rw [h4_2]; exact (Int.add_zero _).symm) (Nat.lt_succ_self _)
  exact LP4 _ 0 0 (by omega) (by omega) rfl (Nat.lt_succ_self _)
set_option maxHeartbeats 4000000 in
theorem c_X6_shaded (l : Launch) (μ : zM) (s : zS) (hs : zRf μ s) (hso : sOK s) : zMi l yX6_shaded cX6_shaded 1 (.int) 5 115 [.inr 31] μ (fun (r : Int) (m : zM) => r = (tShaded s).1 ∧ zRf m (tShaded s).2 ∧ ∀ a, (a < 31 ∨ 48 ≤ a) → m a = μ a) := by
  refine zMi_of (own := RX6) (by decide +kernel) rfl (Nat.le_of_ble_eq_true rfl) ?_
  intro X hX C hrm E
  subst hX
  show zJ X 1 μ 0 [(0, .inr 31)] []
  obtain ⟨hq, hk, hi, hl, hm, hw, hf⟩ := id hs
  obtain ⟨ho, hok, hoi, hon, hot, hom, how⟩ := id hso
  generalize hgv : gV s = v at hq ho
  obtain ⟨hq1, hq2, hq3, hq4, hq5, hq6, hq7⟩ := id hq
  obtain ⟨ho1, ho2, ho3, ho4, ho5, ho6, ho7⟩ := id ho
  have hN := vN_ok ho
  refine z_aload_n C dX6_shaded_0 0 rfl ?_
  refine z_callVi C (c_X6_shadedNow (zl X) μ v hq ho) yyX6_shadedNow mlX6_253 (zRc_of (i := 31) C (by decide) rfl rfl) dX6_shaded_1 rfl rfl (Nat.le_of_ble_eq_true rfl) (by decide) (fun r1 m1 hr1 hp1 => ?_)
  obtain ⟨rfl, hp1⟩ := hp1
  rw [hp1]
  have hsb := sSh_b v 10
  exact E dX6_shaded_4 (by omega) rfl (t_fin (P := zRf) (show tShaded s = (sSh v 10, s) by unfold tShaded; (first | rw [hgv] | skip); repeat (first | rw [if_pos (by omega)] | rw [if_neg (by omega)])) hs (fun a _ => rfl))
set_option maxHeartbeats 4000000 in
theorem c_X6_meetAll (l : Launch) (μ : zM) (v : zVw) (hq : zQ μ v) (ho : vOK v) : zMi l yX6_meetAll cX6_meetAll 4 (.boolean) 2 44 [.inr 31] μ (fun (r : Int) (m : zM) => μ = m ∧ ((r = 1 ∧ (sAll v)) ∨ (r = 0 ∧ ¬ (sAll v)))) := by
  refine zMi_of (own := RX6) (by decide +kernel) rfl (Nat.le_of_ble_eq_true rfl) ?_
  intro X hX C hrm E
  subst hX
  show zJ X 4 μ 0 [(0, .inr 31)] []
  obtain ⟨hq1, hq2, hq3, hq4, hq5, hq6, hq7⟩ := id hq
  obtain ⟨ho1, ho2, ho3, ho4, ho5, ho6, ho7⟩ := id ho
  have hN := vN_ok ho
  have hbb := zshl_b (vR v) (by omega) (by omega)
  refine z_iconst C dX6_meetAll_0 ?_
  refine z_istore_n C dX6_meetAll_1 (by decide) (L' := [(0, _), (1, _)]) rfl ?_
  have LP2 : ∀ (N2 : Nat) (l : Int), (0 ≤ l) → (l ≤ vL v) → (∀ i, 0 ≤ i → i < l → sMmN v i (vN v).toNat = zshl 1 (vR v) - 1) → (6 - l).toNat < N2 → zJ X 4 μ 2 [(0, .inr 31), (1, .inl l)] [] := by
    intro N2
    induction N2 with
    | zero => intro l h2_0 h2_1 h2_2 hN; exact absurd hN (Nat.not_lt_zero _)
    | succ N2 ih2 =>
      intro l h2_0 h2_1 h2_2 hN2
      refine z_iload_n C dX6_meetAll_2 1 rfl ?_
      refine z_aload_n C dX6_meetAll_3 0 rfl ?_
      refine z_getI C ffX6_7 dX6_meetAll_4 (by decide) rfl rfl 0 rfl (fun hr1 => ?_)
      rw [hq1]
      refine z_icmp_ge C dX6_meetAll_7 (tgt := 74) (by decide) (by omega) (by omega) (fun c2 => ?_) (fun c2 => ?_)
      · refine z_iconst C dX6_meetAll_74 ?_
        exact E dX6_meetAll_75 (by decide) (z_nb (Or.inr rfl)) ⟨rfl, Or.inl ⟨rfl, fun i i0 i1 => h2_2 i i0 (by omega)⟩⟩
      · refine z_iconst C dX6_meetAll_10 ?_
        refine z_istore_n C dX6_meetAll_11 (by decide) (L' := [(0, _), (1, _), (2, _)]) rfl ?_
        refine z_iconst C dX6_meetAll_12 ?_
        refine z_istore_n C dX6_meetAll_13 (by decide) (L' := [(0, _), (1, _), (2, _), (3, _)]) rfl ?_
        have LP14 : ∀ (N14 : Nat) (y : Int) (k : Int), (0 ≤ k) → (k ≤ vN v) → (y = sMmN v l k.toNat) → (6 - k).toNat < N14 → zJ X 4 μ 14 [(0, .inr 31), (1, .inl l), (2, .inl y), (3, .inl k)] [] := by
          intro N14
          induction N14 with
          | zero => intro y k h14_0 h14_1 h14_2 hN; exact absurd hN (Nat.not_lt_zero _)
          | succ N14 ih14 =>
            intro y k h14_0 h14_1 h14_2 hN14
            have hmb := sMmN_b ho l k.toNat
            refine z_iload_n C dX6_meetAll_14 3 rfl ?_
            refine z_aload_n C dX6_meetAll_15 0 rfl ?_
            refine z_callVi C (c_X6_roundsNow (zl X) μ v hq ho) yyX6_roundsNow mlX6_187 (zRc_of (i := 31) C (by decide) rfl rfl) dX6_meetAll_16 rfl rfl (Nat.le_of_ble_eq_true rfl) (by decide) (fun r3 m3 hr3 hp3 => ?_)
            obtain ⟨rfl, hp3⟩ := hp3
            rw [hp3]
            refine z_icmp_ge C dX6_meetAll_19 (tgt := 54) (by decide) (by omega) (by omega) (fun c4 => ?_) (fun c4 => ?_)
            · refine z_iload_n C dX6_meetAll_54 2 rfl ?_
              refine z_iconst C dX6_meetAll_55 ?_
              refine z_aload_n C dX6_meetAll_56 0 rfl ?_
              refine z_getI C ffX6_13 dX6_meetAll_57 (by decide) rfl rfl 1 rfl (fun hr5 => ?_)
              rw [hq2]
              refine z_ishl C dX6_meetAll_60 ?_
              refine z_iconst C dX6_meetAll_61 ?_
              refine z_isub C dX6_meetAll_62 ?_
              refine z_icmp_eq C dX6_meetAll_63 (tgt := 68) (by decide) (by omega) (by omega) (fun c6 => ?_) (fun c6 => ?_)
              · refine z_iinc C dX6_meetAll_68 1 rfl (by decide) (L' := [(0, _), (1, _), (2, _), (3, _)]) rfl ?_
                refine z_goto C dX6_meetAll_71 (tgt := 2) (by decide) ?_
                refine z_sub [0, 1] rfl ?_; exact ih2 _ (by omega) (by omega) (fun i i0 i1 => by by_cases e : i = l; (rw [e, show (vN v).toNat = k.toNat by omega]; omega); exact h2_2 i i0 (by omega)) (by omega)
              · refine z_iconst C dX6_meetAll_66 ?_
                exact E dX6_meetAll_67 (by decide) (z_nb (Or.inl rfl)) ⟨rfl, Or.inr ⟨rfl, fun z => by have z1 := z l h2_0 (by omega); rw [show (vN v).toNat = k.toNat by omega] at z1; omega⟩⟩
            · refine z_iload_n C dX6_meetAll_22 2 rfl ?_
              refine z_aload_n C dX6_meetAll_23 0 rfl ?_
              refine z_iload_n C dX6_meetAll_24 1 rfl ?_
              refine z_iload_n C dX6_meetAll_25 3 rfl ?_
              refine z_callVi C (c_X6_metBy (zl X) μ v hq ho l k (by omega) (by omega)) yyX6_metBy mlX6_190 (zRc_of (i := 31) C (by decide) rfl rfl) dX6_meetAll_26 rfl rfl (Nat.le_of_ble_eq_true rfl) (by decide) (fun r7 m7 hr7 hp7 => ?_)
              obtain ⟨rfl, hp7⟩ := hp7
              rw [hp7]
              have hU := sPar_U ho (p := l) (k := k)
              refine z_if_ge C dX6_meetAll_29 (tgt := 36) (by decide) (by omega) (fun c8 => ?_) (fun c8 => ?_)
              · refine z_iconst C dX6_meetAll_36 ?_
                refine z_aload_n C dX6_meetAll_37 0 rfl ?_
                refine z_iload_n C dX6_meetAll_38 1 rfl ?_
                refine z_iload_n C dX6_meetAll_39 3 rfl ?_
                refine z_callVi C (c_X6_metBy (zl X) μ v hq ho l k (by omega) (by omega)) yyX6_metBy mlX6_190 (zRc_of (i := 31) C (by decide) rfl rfl) dX6_meetAll_40 rfl rfl (Nat.le_of_ble_eq_true rfl) (by decide) (fun r9 m9 hr9 hp9 => ?_)
                obtain ⟨rfl, hp9⟩ := hp9
                rw [hp9]
                refine z_iconst C dX6_meetAll_43 ?_
                refine z_isub C dX6_meetAll_44 ?_
                refine z_ishl C dX6_meetAll_45 ?_
                refine z_ior C dX6_meetAll_46 ?_
                refine z_istore_n C dX6_meetAll_47 (by decide) (L' := [(0, _), (1, _), (2, _), (3, _)]) rfl ?_
                refine z_iinc C dX6_meetAll_48 3 rfl (by decide) (L' := [(0, _), (1, _), (2, _), (3, _)]) rfl ?_
                refine z_goto C dX6_meetAll_51 (tgt := 14) (by decide) ?_
                exact ih14 _ _ (by omega) (by omega) (by rw [sMmN_s v l (by omega), if_neg (by omega), ← h14_2, zbit_p5 (by omega)]) (by omega)
              · refine z_iconst C dX6_meetAll_32 ?_
                refine z_goto C dX6_meetAll_33 (tgt := 46) (by decide) ?_
                refine z_ior C dX6_meetAll_46 ?_
                refine z_istore_n C dX6_meetAll_47 (by decide) (L' := [(0, _), (1, _), (2, _), (3, _)]) rfl ?_
                refine z_iinc C dX6_meetAll_48 3 rfl (by decide) (L' := [(0, _), (1, _), (2, _), (3, _)]) rfl ?_
                refine z_goto C dX6_meetAll_51 (tgt := 14) (by decide) ?_
                exact ih14 _ _ (by omega) (by omega) (by rw [sMmN_s v l (by omega), if_pos (by omega), ← h14_2, zor_0 (by omega)]) (by omega)
        exact LP14 _ 0 0 (by omega) (by omega) rfl (Nat.lt_succ_self _)
  exact LP2 _ 0 (by omega) (by omega) (fun i i0 i1 => by omega) (Nat.lt_succ_self _)
set_option maxHeartbeats 4000000 in
theorem c_X6_bestOrder (l : Launch) (μ : zM) (s : zS) (hs : zRf μ s) (hso : sOK s) : zMi l yX6_bestOrder cX6_bestOrder 8 (.int) 5 115 [.inr 31] μ (fun (r : Int) (m : zM) => r = (tBest s).1 ∧ zRf m (tBest s).2 ∧ ∀ a, (a < 31 ∨ 48 ≤ a) → m a = μ a) := by
  refine zMi_of (own := RX6) (by decide +kernel) rfl (Nat.le_of_ble_eq_true rfl) ?_
  intro X hX C hrm E
  subst hX
  show zJ X 8 μ 0 [(0, .inr 31)] []
  obtain ⟨hq, hk, hi, hl, hm, hw, hf⟩ := id hs
  obtain ⟨ho, hok, hoi, hon, hot, hom, how⟩ := id hso
  generalize hgv : gV s = v at hq ho
  obtain ⟨hq1, hq2, hq3, hq4, hq5, hq6, hq7⟩ := id hq
  obtain ⟨ho1, ho2, ho3, ho4, ho5, ho6, ho7⟩ := id ho
  have hN := vN_ok ho
  refine z_aload_n C dX6_bestOrder_0 0 rfl ?_
  refine z_getI C ffX6_16 dX6_bestOrder_1 (by decide) rfl rfl 2 rfl (fun hr1 => ?_)
  refine z_istore_n C dX6_bestOrder_4 (by decide) (L' := [(0, _), (1, _)]) rfl ?_
  refine z_aload_n C dX6_bestOrder_5 0 rfl ?_
  refine z_getI C ffX6_19 dX6_bestOrder_6 (by decide) rfl rfl 3 rfl (fun hr2 => ?_)
  refine z_istore_n C dX6_bestOrder_9 (by decide) (L' := [(0, _), (1, _), (2, _)]) rfl ?_
  refine z_bipush C dX6_bestOrder_10 (by decide) ?_
  refine z_istore_n C dX6_bestOrder_12 (by decide) (L' := [(0, _), (1, _), (2, _), (3, _)]) rfl ?_
  refine z_iconst C dX6_bestOrder_13 ?_
  refine z_istore C dX6_bestOrder_14 (by decide) (L' := [(0, _), (1, _), (2, _), (3, _), (4, _)]) rfl ?_
  refine z_iconst C dX6_bestOrder_16 ?_
  refine z_istore C dX6_bestOrder_17 (by decide) (L' := [(0, _), (1, _), (2, _), (3, _), (4, _), (5, _)]) rfl ?_
  have LP19 : ∀ (N19 : Nat) (best : Int) (least : Int) (st : Int) (a : Int) (b : Int) (ma : zM), (1 ≤ st) → (st ≤ 5) → (best = (sBeS v (st - 1).toNat).1) → (least = (sBeS v (st - 1).toNat).2) → (zQ ma (vOrd v a b)) → (∀ a x, ¬ (a = 31 ∧ (x = 2 ∨ x = 3)) → ma a x = μ a x) → (6 - st).toNat < N19 → zJ X 8 ma 19 [(0, .inr 31), (1, .inl (μ 31 2)), (2, .inl (μ 31 3)), (3, .inl best), (4, .inl least), (5, .inl st)] [] := by
    intro N19
    induction N19 with
    | zero => intro best least st a b ma h19_0 h19_1 h19_2 h19_3 h19_4 h19_5 hN; exact absurd hN (Nat.not_lt_zero _)
    | succ N19 ih19 =>
      intro best least st a b ma h19_0 h19_1 h19_2 h19_3 h19_4 h19_5 hN19
      have hBb := sBeS_b v (st - 1).toNat (by omega)
      refine z_iload C dX6_bestOrder_19 5 rfl ?_
      refine z_iconst C dX6_bestOrder_21 ?_
      refine z_icmp_ge C dX6_bestOrder_22 (tgt := 101) (by decide) (by omega) (by decide) (fun c3 => ?_) (fun c3 => ?_)
      · refine z_aload_n C dX6_bestOrder_101 0 rfl ?_
        refine z_iload_n C dX6_bestOrder_102 1 rfl ?_
        refine z_putI C ffX6_16 fp6_2 dX6_bestOrder_103 (by decide) rfl rfl 2 rfl (by omega) ?_
        refine z_mem (fun m4 em4 => ?_)
        refine z_aload_n C dX6_bestOrder_106 0 rfl ?_
        refine z_iload_n C dX6_bestOrder_107 2 rfl ?_
        refine z_putI C ffX6_19 fp6_3 dX6_bestOrder_108 (by decide) rfl rfl 3 rfl (by omega) ?_
        refine z_mem (fun m5 em5 => ?_)
        have hME : m5 = μ := zM_ext fun a x => by
          by_cases e1 : a = 31 ∧ x = 3
          · rw [e1.1, e1.2, em5, zs_self]
          rw [em5, zs_o _ _ e1]
          by_cases e2 : a = 31 ∧ x = 2
          · rw [e2.1, e2.2, em4, zs_self]
          rw [em4, zs_o _ _ e2]
          exact h19_5 a x (by omega)
        refine z_iload_n C dX6_bestOrder_111 3 rfl ?_
        exact E dX6_bestOrder_112 (by omega) rfl (t_fin (P := zRf) (show tBest s = (best, s) by unfold tBest; (first | rw [hgv] | skip); rw [h19_2, show (st - 1).toNat = 4 by omega]) (by rw [hME]; exact hs) (fun a _ => by rw [hME]))
      · refine z_iconst C dX6_bestOrder_25 ?_
        refine z_istore C dX6_bestOrder_26 (by decide) (L' := [(0, _), (1, _), (2, _), (3, _), (4, _), (5, _), (6, _)]) rfl ?_
        have LP28 : ∀ (N28 : Nat) (best2 : Int) (least2 : Int) (sh : Int) (c : Int) (d : Int) (mb : zM), (0 ≤ sh) → (sh ≤ 5) → (best2 = (sBeH v st sh.toNat (sBeS v (st - 1).toNat)).1) → (least2 = (sBeH v st sh.toNat (sBeS v (st - 1).toNat)).2) → (zQ mb (vOrd v c d)) → (∀ a x, ¬ (a = 31 ∧ (x = 2 ∨ x = 3)) → mb a x = μ a x) → (6 - sh).toNat < N28 → zJ X 8 mb 28 [(0, .inr 31), (1, .inl (μ 31 2)), (2, .inl (μ 31 3)), (3, .inl best2), (4, .inl least2), (5, .inl st), (6, .inl sh)] [] := by
          intro N28
          induction N28 with
          | zero => intro best2 least2 sh c d mb h28_0 h28_1 h28_2 h28_3 h28_4 h28_5 hN; exact absurd hN (Nat.not_lt_zero _)
          | succ N28 ih28 =>
            intro best2 least2 sh c d mb h28_0 h28_1 h28_2 h28_3 h28_4 h28_5 hN28
            have hCb := sBeH_b (v := v) (st := st) (by omega) hBb sh.toNat (by omega)
            refine z_iload C dX6_bestOrder_28 6 rfl ?_
            refine z_iconst C dX6_bestOrder_30 ?_
            refine z_icmp_ge C dX6_bestOrder_31 (tgt := 95) (by decide) (by omega) (by decide) (fun c6 => ?_) (fun c6 => ?_)
            · refine z_iinc C dX6_bestOrder_95 5 rfl (by decide) (L' := [(0, _), (1, _), (2, _), (3, _), (4, _), (5, _), (6, _)]) rfl ?_
              refine z_goto C dX6_bestOrder_98 (tgt := 19) (by decide) ?_
              refine z_sub [0, 1, 2, 3, 4, 5] rfl ?_; exact ih19 _ _ _ c d mb (by omega) (by omega) (by rw [show (st + 1 - 1).toNat = (st - 1 + 1).toNat by omega, sBeS_s v (by omega), show st - 1 + 1 = st by omega, h28_2, show sh.toNat = 5 by omega]) (by rw [show (st + 1 - 1).toNat = (st - 1 + 1).toNat by omega, sBeS_s v (by omega), show st - 1 + 1 = st by omega, h28_3, show sh.toNat = 5 by omega]) h28_4 h28_5 (by omega)
            · refine z_aload_n C dX6_bestOrder_34 0 rfl ?_
              refine z_iload C dX6_bestOrder_35 5 rfl ?_
              refine z_putI C ffX6_16 fp6_2 dX6_bestOrder_37 (by decide) rfl rfl 2 rfl (by omega) ?_
              refine z_mem (fun m7 em7 => ?_)
              refine z_aload_n C dX6_bestOrder_40 0 rfl ?_
              refine z_iload C dX6_bestOrder_41 6 rfl ?_
              refine z_putI C ffX6_19 fp6_3 dX6_bestOrder_43 (by decide) rfl rfl 3 rfl (by omega) ?_
              refine z_mem (fun m8 em8 => ?_)
              have hO : vOK (vOrd v st sh) := vOrd_ok ho (by omega) (by omega)
              have hT6 : zQ m8 (vOrd v st sh) := by rw [em8, em7]; exact zQ_ord h28_4
              refine z_aload_n C dX6_bestOrder_46 0 rfl ?_
              refine z_callVi C (c_X6_meetAll (zl X) m8 (vOrd v st sh) hT6 hO) yyX6_meetAll mlX6_256 (zRc_of (i := 31) C (by decide) rfl rfl) dX6_bestOrder_47 rfl rfl (Nat.le_of_ble_eq_true rfl) (by decide) (fun r9 m9 hr9 hp9 => ?_)
              obtain ⟨rfl, hp9⟩ := hp9
              rcases hp9 with ⟨rfl, hp9⟩ | ⟨rfl, hp9⟩
              · have hgm := hp9
                refine z_if_ne C dX6_bestOrder_50 (tgt := 56) (by decide) (by decide) (fun _ => ?_) (fun c10 => (by exfalso; omega))
                refine z_aload_n C dX6_bestOrder_56 0 rfl ?_
                refine z_callVi C (c_X6_shadedNow (zl X) m8 (vOrd v st sh) hT6 hO) yyX6_shadedNow mlX6_253 (zRc_of (i := 31) C (by decide) rfl rfl) dX6_bestOrder_57 rfl rfl (Nat.le_of_ble_eq_true rfl) (by decide) (fun r11 m11 hr11 hp11 => ?_)
                obtain ⟨rfl, hp11⟩ := hp11
                rw [hp11]
                have hsb := sSh_b (vOrd v st sh) 10
                refine z_istore C dX6_bestOrder_60 (by decide) (L' := [(0, _), (1, _), (2, _), (3, _), (4, _), (5, _), (6, _), (7, _)]) rfl ?_
                refine z_iload_n C dX6_bestOrder_62 3 rfl ?_
                refine z_if_lt C dX6_bestOrder_63 (tgt := 76) (by decide) (by omega) (fun c12 => ?_) (fun c12 => ?_)
                · refine z_bipush C dX6_bestOrder_76 (by decide) ?_
                  refine z_iload C dX6_bestOrder_78 5 rfl ?_
                  refine z_imul C dX6_bestOrder_80 ?_
                  refine z_iload C dX6_bestOrder_81 6 rfl ?_
                  refine z_iadd C dX6_bestOrder_83 ?_
                  refine z_istore_n C dX6_bestOrder_84 (by decide) (L' := [(0, _), (1, _), (2, _), (3, _), (4, _), (5, _), (6, _), (7, _)]) rfl ?_
                  refine z_iload C dX6_bestOrder_85 7 rfl ?_
                  refine z_istore C dX6_bestOrder_87 (by decide) (L' := [(0, _), (1, _), (2, _), (3, _), (4, _), (5, _), (6, _), (7, _)]) rfl ?_
                  refine z_iinc C dX6_bestOrder_89 6 rfl (by decide) (L' := [(0, _), (1, _), (2, _), (3, _), (4, _), (5, _), (6, _), (7, _)]) rfl ?_
                  refine z_goto C dX6_bestOrder_92 (tgt := 28) (by decide) ?_
                  refine z_sub [0, 1, 2, 3, 4, 5, 6] rfl ?_; exact ih28 _ _ _ st sh m8 (by omega) (by omega) (by rw [sBeH_s v st (by omega), if_pos ⟨by omega, (sAlB_t hO).2 hgm⟩]) (by rw [sBeH_s v st (by omega), if_pos ⟨by omega, (sAlB_t hO).2 hgm⟩]) hT6 (fun a x hx => by rw [em8, zs_o _ _ (by omega), em7, zs_o _ _ (by omega)]; exact h28_5 a x hx) (by omega)
                · refine z_iload C dX6_bestOrder_66 7 rfl ?_
                  refine z_iload C dX6_bestOrder_68 4 rfl ?_
                  refine z_icmp_lt C dX6_bestOrder_70 (tgt := 76) (by decide) (by omega) (by omega) (fun c13 => ?_) (fun c13 => ?_)
                  · refine z_bipush C dX6_bestOrder_76 (by decide) ?_
                    refine z_iload C dX6_bestOrder_78 5 rfl ?_
                    refine z_imul C dX6_bestOrder_80 ?_
                    refine z_iload C dX6_bestOrder_81 6 rfl ?_
                    refine z_iadd C dX6_bestOrder_83 ?_
                    refine z_istore_n C dX6_bestOrder_84 (by decide) (L' := [(0, _), (1, _), (2, _), (3, _), (4, _), (5, _), (6, _), (7, _)]) rfl ?_
                    refine z_iload C dX6_bestOrder_85 7 rfl ?_
                    refine z_istore C dX6_bestOrder_87 (by decide) (L' := [(0, _), (1, _), (2, _), (3, _), (4, _), (5, _), (6, _), (7, _)]) rfl ?_
                    refine z_iinc C dX6_bestOrder_89 6 rfl (by decide) (L' := [(0, _), (1, _), (2, _), (3, _), (4, _), (5, _), (6, _), (7, _)]) rfl ?_
                    refine z_goto C dX6_bestOrder_92 (tgt := 28) (by decide) ?_
                    refine z_sub [0, 1, 2, 3, 4, 5, 6] rfl ?_; exact ih28 _ _ _ st sh m8 (by omega) (by omega) (by rw [sBeH_s v st (by omega), if_pos ⟨by omega, (sAlB_t hO).2 hgm⟩]) (by rw [sBeH_s v st (by omega), if_pos ⟨by omega, (sAlB_t hO).2 hgm⟩]) hT6 (fun a x hx => by rw [em8, zs_o _ _ (by omega), em7, zs_o _ _ (by omega)]; exact h28_5 a x hx) (by omega)
                  · refine z_goto C dX6_bestOrder_73 (tgt := 89) (by decide) ?_
                    refine z_iinc C dX6_bestOrder_89 6 rfl (by decide) (L' := [(0, _), (1, _), (2, _), (3, _), (4, _), (5, _), (6, _), (7, _)]) rfl ?_
                    refine z_goto C dX6_bestOrder_92 (tgt := 28) (by decide) ?_
                    refine z_sub [0, 1, 2, 3, 4, 5, 6] rfl ?_; exact ih28 _ _ _ st sh m8 (by omega) (by omega) (by rw [sBeH_s v st (by omega), if_neg (fun z => by omega)]; exact h28_2) (by rw [sBeH_s v st (by omega), if_neg (fun z => by omega)]; exact h28_3) hT6 (fun a x hx => by rw [em8, zs_o _ _ (by omega), em7, zs_o _ _ (by omega)]; exact h28_5 a x hx) (by omega)
              · have hgm := hp9
                refine z_if_ne C dX6_bestOrder_50 (tgt := 56) (by decide) (by decide) (fun c14 => (by exfalso; omega)) (fun _ => ?_)
                refine z_goto C dX6_bestOrder_53 (tgt := 89) (by decide) ?_
                refine z_iinc C dX6_bestOrder_89 6 rfl (by decide) (L' := [(0, _), (1, _), (2, _), (3, _), (4, _), (5, _), (6, _)]) rfl ?_
                refine z_goto C dX6_bestOrder_92 (tgt := 28) (by decide) ?_
                exact ih28 _ _ _ st sh m8 (by omega) (by omega) (by rw [sBeH_s v st (by omega), if_neg (fun z => hgm ((sAlB_t hO).1 z.2))]; exact h28_2) (by rw [sBeH_s v st (by omega), if_neg (fun z => hgm ((sAlB_t hO).1 z.2))]; exact h28_3) hT6 (fun a x hx => by rw [em8, zs_o _ _ (by omega), em7, zs_o _ _ (by omega)]; exact h28_5 a x hx) (by omega)
        exact LP28 _ best least 0 a b ma (by omega) (by omega) h19_2 h19_3 h19_4 h19_5 (Nat.lt_succ_self _)
  exact LP19 _ (-9) 0 1 (vS v) (vH v) μ (by omega) (by omega) rfl rfl hq (fun _ _ _ => rfl) (Nat.lt_succ_self _)
set_option maxHeartbeats 4000000 in
theorem c_X6_pairsOf (l : Launch) (μ : zM) (v : zVw) (hq : zQ μ v) (ho : vOK v) (f : Int → Int) (hc : ∀ p, 0 ≤ p → p < 10 → μ 41 p = f p) (hz : zNo v f) (p : Int) (hp : vTh v p) : zMi l yX6_pairsOf cX6_pairsOf 4 (.int) 1 22 [.inr 31, .inl p] μ (fun (r : Int) (m : zM) => μ = m ∧ r = sPb f p) := by
  refine zMi_of (own := RX6) (by decide +kernel) rfl (Nat.le_of_ble_eq_true rfl) ?_
  intro X hX C hrm E
  subst hX
  show zJ X 4 μ 0 [(0, .inr 31), (1, .inl p)] []
  obtain ⟨hq1, hq2, hq3, hq4, hq5, hq6, hq7⟩ := id hq
  obtain ⟨ho1, ho2, ho3, ho4, ho5, ho6, ho7⟩ := id ho
  have hN := vN_ok ho
  have hF := vF_b ho p
  have hfp := (hz p (by omega) (by omega)).1
  refine z_iconst C dX6_pairsOf_0 ?_
  refine z_istore_n C dX6_pairsOf_1 (by decide) (L' := [(0, _), (1, _), (2, _)]) rfl ?_
  refine z_iconst C dX6_pairsOf_2 ?_
  refine z_istore_n C dX6_pairsOf_3 (by decide) (L' := [(0, _), (1, _), (2, _), (3, _)]) rfl ?_
  have LP4 : ∀ (N4 : Nat) (y : Int) (n : Int), (0 ≤ n) → (n ≤ vF v p) → (y = zBld (fun j => decide (sTwo f p (sOth p j))) n.toNat) → (6 - n).toNat < N4 → zJ X 4 μ 4 [(0, .inr 31), (1, .inl p), (2, .inl y), (3, .inl n)] [] := by
    intro N4
    induction N4 with
    | zero => intro y n h4_0 h4_1 h4_2 hN; exact absurd hN (Nat.not_lt_zero _)
    | succ N4 ih4 =>
      intro y n h4_0 h4_1 h4_2 hN4
      have hzb := zBld_b (fun j => decide (sTwo f p (sOth p j))) n.toNat (by omega)
      refine z_iload_n C dX6_pairsOf_4 3 rfl ?_
      refine z_aload_n C dX6_pairsOf_5 0 rfl ?_
      refine z_iload_n C dX6_pairsOf_6 1 rfl ?_
      refine z_callVi C (c_X6_others (zl X) μ v hq ho p (by omega)) yyX6_others mlX6_206 (zRc_of (i := 31) C (by decide) rfl rfl) dX6_pairsOf_7 rfl rfl (Nat.le_of_ble_eq_true rfl) (by decide) (fun r1 m1 hr1 hp1 => ?_)
      obtain ⟨rfl, hp1⟩ := hp1
      rw [hp1]
      refine z_icmp_ge C dX6_pairsOf_10 (tgt := 64) (by decide) (by omega) (by omega) (fun c2 => ?_) (fun c2 => ?_)
      · refine z_iload_n C dX6_pairsOf_64 2 rfl ?_
        exact E dX6_pairsOf_65 (by omega) rfl ⟨rfl, (by rw [sPb_bld ho hz (by omega), h4_2, show n = vF v p by omega])⟩
      · refine z_iload_n C dX6_pairsOf_13 2 rfl ?_
        refine z_aload_n C dX6_pairsOf_14 0 rfl ?_
        refine z_aload_n C dX6_pairsOf_15 0 rfl ?_
        refine z_getR C ffX6_74 dX6_pairsOf_16 (by decide) rfl rfl ?_
        refine z_iload_n C dX6_pairsOf_19 1 rfl ?_
        refine z_iald C dX6_pairsOf_20 (by decide) rfl (by omega) (by decide) (fun hr3 => ?_)
        rw [hc p (by omega) (by omega)]
        refine z_iload_n C dX6_pairsOf_21 3 rfl ?_
        refine z_callVi C (c_X6_has (zl X) μ (f p) n (by omega) (by omega)) yyX6_has mlX6_229 (zRc_of (i := 31) C (by decide) rfl rfl) dX6_pairsOf_22 rfl rfl (Nat.le_of_ble_eq_true rfl) (by decide) (fun r4 m4 hr4 hp4 => ?_)
        obtain ⟨rfl, hp4⟩ := hp4
        rcases hp4 with ⟨rfl, hp4⟩ | ⟨rfl, hp4⟩
        · have hg1 := hp4
          rw [← zbit_o p n] at hg1
          refine z_if_eq C dX6_pairsOf_25 (tgt := 55) (by decide) (by decide) (fun c5 => (by exfalso; omega)) (fun _ => ?_)
          refine z_aload_n C dX6_pairsOf_28 0 rfl ?_
          refine z_aload_n C dX6_pairsOf_29 0 rfl ?_
          refine z_getR C ffX6_74 dX6_pairsOf_30 (by decide) rfl rfl ?_
          have hob := sOth_b (p := p) (j := n) (by omega) (by omega)
          have hfo := (hz (sOth p n) (by omega) (by omega)).1
          refine z_aload_n C dX6_pairsOf_33 0 rfl ?_
          skip
          refine z_iload_n C dX6_pairsOf_34 1 rfl ?_
          refine z_iload_n C dX6_pairsOf_35 3 rfl ?_
          refine z_callVi C (c_X6_otherOf (zl X) μ p n (by omega) (by omega)) yyX6_otherOf mlX6_167 (zRc_of (i := 31) C (by decide) rfl rfl) dX6_pairsOf_36 rfl rfl (Nat.le_of_ble_eq_true rfl) (by decide) (fun r6 m6 hr6 hp6 => ?_)
          obtain ⟨rfl, hp6⟩ := hp6
          rw [hp6]
          refine z_iald C dX6_pairsOf_39 (by decide) rfl (by omega) (by decide) (fun hr7 => ?_)
          rw [hc (sOth p n) (by omega) (by omega)]
          refine z_iload_n C dX6_pairsOf_40 1 rfl ?_
          refine z_iconst C dX6_pairsOf_41 ?_
          refine z_irem C dX6_pairsOf_42 (by omega) ?_
          refine z_callVi C (c_X6_has (zl X) μ (f (sOth p n)) (p % 5) (by omega) (by omega)) yyX6_has mlX6_229 (zRc_of (i := 31) C (by decide) rfl rfl) dX6_pairsOf_43 rfl rfl (Nat.le_of_ble_eq_true rfl) (by decide) (fun r8 m8 hr8 hp8 => ?_)
          obtain ⟨rfl, hp8⟩ := hp8
          rcases hp8 with ⟨rfl, hp8⟩ | ⟨rfl, hp8⟩
          · have hg2 := hp8
            rw [zbit_m] at hg2
            refine z_if_eq C dX6_pairsOf_46 (tgt := 55) (by decide) (by decide) (fun c9 => (by exfalso; omega)) (fun _ => ?_)
            refine z_iconst C dX6_pairsOf_49 ?_
            refine z_iload_n C dX6_pairsOf_50 3 rfl ?_
            refine z_ishl C dX6_pairsOf_51 ?_
            refine z_goto C dX6_pairsOf_52 (tgt := 56) (by decide) ?_
            refine z_ior C dX6_pairsOf_56 ?_
            refine z_istore_n C dX6_pairsOf_57 (by decide) (L' := [(0, _), (1, _), (2, _), (3, _)]) rfl ?_
            refine z_iinc C dX6_pairsOf_58 3 rfl (by decide) (L' := [(0, _), (1, _), (2, _), (3, _)]) rfl ?_
            refine z_goto C dX6_pairsOf_61 (tgt := 4) (by decide) ?_
            exact ih4 _ _ (by omega) (by omega) (by rw [zBld_s _ (by omega), ← h4_2, if_pos (decide_eq_true ⟨hg1, hg2⟩)]) (by omega)
          · have hg2 := hp8
            rw [zbit_m] at hg2
            refine z_if_eq C dX6_pairsOf_46 (tgt := 55) (by decide) (by decide) (fun _ => ?_) (fun c10 => (by exfalso; omega))
            refine z_iconst C dX6_pairsOf_55 ?_
            refine z_ior C dX6_pairsOf_56 ?_
            refine z_istore_n C dX6_pairsOf_57 (by decide) (L' := [(0, _), (1, _), (2, _), (3, _)]) rfl ?_
            refine z_iinc C dX6_pairsOf_58 3 rfl (by decide) (L' := [(0, _), (1, _), (2, _), (3, _)]) rfl ?_
            refine z_goto C dX6_pairsOf_61 (tgt := 4) (by decide) ?_
            exact ih4 _ _ (by omega) (by omega) (by rw [zBld_s _ (by omega), ← h4_2, if_neg (by rw [decide_eq_false (fun z => hg2 z.2)]; intro q; cases q)]) (by omega)
        · have hg1 := hp4
          rw [← zbit_o p n] at hg1
          refine z_if_eq C dX6_pairsOf_25 (tgt := 55) (by decide) (by decide) (fun _ => ?_) (fun c11 => (by exfalso; omega))
          refine z_iconst C dX6_pairsOf_55 ?_
          refine z_ior C dX6_pairsOf_56 ?_
          refine z_istore_n C dX6_pairsOf_57 (by decide) (L' := [(0, _), (1, _), (2, _), (3, _)]) rfl ?_
          refine z_iinc C dX6_pairsOf_58 3 rfl (by decide) (L' := [(0, _), (1, _), (2, _), (3, _)]) rfl ?_
          refine z_goto C dX6_pairsOf_61 (tgt := 4) (by decide) ?_
          exact ih4 _ _ (by omega) (by omega) (by rw [zBld_s _ (by omega), ← h4_2, if_neg (by rw [decide_eq_false (fun z => hg1 z.1)]; intro q; cases q)]) (by omega)
  exact LP4 _ 0 0 (by omega) (by omega) rfl (Nat.lt_succ_self _)
set_option maxHeartbeats 4000000 in
theorem c_X6_allPairs (l : Launch) (μ : zM) (v : zVw) (hq : zQ μ v) (ho : vOK v) (f : Int → Int) (hc : ∀ p, 0 ≤ p → p < 10 → μ 41 p = f p) (hz : zNo v f) (w : Int) (hw : w = 0 ∨ w = 1) : zMi l yX6_allPairs cX6_allPairs 5 (.int) 1 22 [.inr 31, .inl w] μ (fun (r : Int) (m : zM) => μ = m ∧ r = sAp v f w) := by
  refine zMi_of (own := RX6) (by decide +kernel) rfl (Nat.le_of_ble_eq_true rfl) ?_
  intro X hX C hrm E
  subst hX
  show zJ X 5 μ 0 [(0, .inr 31), (1, .inl w)] []
  obtain ⟨hq1, hq2, hq3, hq4, hq5, hq6, hq7⟩ := id hq
  obtain ⟨ho1, ho2, ho3, ho4, ho5, ho6, ho7⟩ := id ho
  have hN := vN_ok ho
  refine z_iconst C dX6_allPairs_0 ?_
  refine z_istore_n C dX6_allPairs_1 (by decide) (L' := [(0, _), (1, _), (2, _)]) rfl ?_
  refine z_iconst C dX6_allPairs_2 ?_
  refine z_istore_n C dX6_allPairs_3 (by decide) (L' := [(0, _), (1, _), (2, _), (3, _)]) rfl ?_
  have LP4 : ∀ (N4 : Nat) (y : Int) (l : Int), (0 ≤ l) → (l ≤ vL v) → (y = zSum (sApL v f w) l.toNat) → (6 - l).toNat < N4 → zJ X 5 μ 4 [(0, .inr 31), (1, .inl w), (2, .inl y), (3, .inl l)] [] := by
    intro N4
    induction N4 with
    | zero => intro y l h4_0 h4_1 h4_2 hN; exact absurd hN (Nat.not_lt_zero _)
    | succ N4 ih4 =>
      intro y l h4_0 h4_1 h4_2 hN4
      have hLb := sApL_b ho f w l.toNat (by omega)
      refine z_iload_n C dX6_allPairs_4 3 rfl ?_
      refine z_aload_n C dX6_allPairs_5 0 rfl ?_
      refine z_getI C ffX6_7 dX6_allPairs_6 (by decide) rfl rfl 0 rfl (fun hr1 => ?_)
      rw [hq1]
      refine z_icmp_ge C dX6_allPairs_9 (tgt := 101) (by decide) (by omega) (by omega) (fun c2 => ?_) (fun c2 => ?_)
      · refine z_iload_n C dX6_allPairs_101 2 rfl ?_
        exact E dX6_allPairs_102 (by omega) rfl ⟨rfl, (by unfold sAp; rw [h4_2, show l = vL v by omega])⟩
      · refine z_iconst C dX6_allPairs_12 ?_
        refine z_istore C dX6_allPairs_13 (by decide) (L' := [(0, _), (1, _), (2, _), (3, _), (4, _)]) rfl ?_
        have LP15 : ∀ (N15 : Nat) (x : Int) (r : Int), (0 ≤ r) → (r ≤ vR v) → (x = zSum (sApL v f w) l.toNat + zSum (sApR v f w l) r.toNat) → (6 - r).toNat < N15 → zJ X 5 μ 15 [(0, .inr 31), (1, .inl w), (2, .inl x), (3, .inl l), (4, .inl r)] [] := by
          intro N15
          induction N15 with
          | zero => intro x r h15_0 h15_1 h15_2 hN; exact absurd hN (Nat.not_lt_zero _)
          | succ N15 ih15 =>
            intro x r h15_0 h15_1 h15_2 hN15
            have hRb := sApR_b ho f w (l := l) (by omega) r.toNat (by omega)
            have hfl := (hz l (by omega) (by omega)).1
            refine z_iload C dX6_allPairs_15 4 rfl ?_
            refine z_aload_n C dX6_allPairs_17 0 rfl ?_
            refine z_getI C ffX6_13 dX6_allPairs_18 (by decide) rfl rfl 1 rfl (fun hr3 => ?_)
            rw [hq2]
            refine z_icmp_ge C dX6_allPairs_21 (tgt := 95) (by decide) (by omega) (by omega) (fun c4 => ?_) (fun c4 => ?_)
            · refine z_iinc C dX6_allPairs_95 3 rfl (by decide) (L' := [(0, _), (1, _), (2, _), (3, _), (4, _)]) rfl ?_
              refine z_goto C dX6_allPairs_98 (tgt := 4) (by decide) ?_
              refine z_sub [0, 1, 2, 3] rfl ?_; exact ih4 _ _ (by omega) (by omega) (by rw [zSum_s _ (by omega), h15_2]; unfold sApL; rw [show r.toNat = (vR v).toNat by omega]) (by omega)
            · refine z_aload_n C dX6_allPairs_24 0 rfl ?_
              refine z_aload_n C dX6_allPairs_25 0 rfl ?_
              refine z_getR C ffX6_74 dX6_allPairs_26 (by decide) rfl rfl ?_
              refine z_iload_n C dX6_allPairs_29 3 rfl ?_
              refine z_iald C dX6_allPairs_30 (by decide) rfl (by omega) (by decide) (fun hr5 => ?_)
              rw [hc l (by omega) (by omega)]
              refine z_iload C dX6_allPairs_31 4 rfl ?_
              refine z_callVi C (c_X6_has (zl X) μ (f l) r (by omega) (by omega)) yyX6_has mlX6_229 (zRc_of (i := 31) C (by decide) rfl rfl) dX6_allPairs_33 rfl rfl (Nat.le_of_ble_eq_true rfl) (by decide) (fun r6 m6 hr6 hp6 => ?_)
              obtain ⟨rfl, hp6⟩ := hp6
              rcases hp6 with ⟨rfl, hp6⟩ | ⟨rfl, hp6⟩
              · have hg1 := hp6
                rw [← zbit_5 r] at hg1
                refine z_if_eq C dX6_allPairs_36 (tgt := 89) (by decide) (by decide) (fun c7 => (by exfalso; omega)) (fun _ => ?_)
                refine z_aload_n C dX6_allPairs_39 0 rfl ?_
                refine z_aload_n C dX6_allPairs_40 0 rfl ?_
                refine z_getR C ffX6_74 dX6_allPairs_41 (by decide) rfl rfl ?_
                refine z_iconst C dX6_allPairs_44 ?_
                refine z_iload C dX6_allPairs_45 4 rfl ?_
                refine z_iadd C dX6_allPairs_47 ?_
                refine z_iald C dX6_allPairs_48 (by decide) rfl (by omega) (by decide) (fun hr8 => ?_)
                rw [hc (5 + r) (by omega) (by omega)]
                have hfr := (hz (5 + r) (by omega) (by omega)).1
                refine z_iload_n C dX6_allPairs_49 3 rfl ?_
                refine z_callVi C (c_X6_has (zl X) μ (f (5 + r)) l (by omega) (by omega)) yyX6_has mlX6_229 (zRc_of (i := 31) C (by decide) rfl rfl) dX6_allPairs_50 rfl rfl (Nat.le_of_ble_eq_true rfl) (by decide) (fun r9 m9 hr9 hp9 => ?_)
                obtain ⟨rfl, hp9⟩ := hp9
                rcases hp9 with ⟨rfl, hp9⟩ | ⟨rfl, hp9⟩
                · have hg2 := hp9
                  refine z_if_ne C dX6_allPairs_53 (tgt := 59) (by decide) (by decide) (fun _ => ?_) (fun c10 => (by exfalso; omega))
                  refine z_iload_n C dX6_allPairs_59 2 rfl ?_
                  refine z_iload_n C dX6_allPairs_60 1 rfl ?_
                  refine z_if_ne C dX6_allPairs_61 (tgt := 68) (by decide) (by omega) (fun c11 => ?_) (fun c11 => ?_)
                  · refine z_aload_n C dX6_allPairs_68 0 rfl ?_
                    refine z_iload_n C dX6_allPairs_69 3 rfl ?_
                    refine z_iconst C dX6_allPairs_70 ?_
                    refine z_iload C dX6_allPairs_71 4 rfl ?_
                    refine z_iadd C dX6_allPairs_73 ?_
                    refine z_callVi C (c_X6_likingOf (zl X) μ v hq ho l (5 + r) (by omega)) yyX6_likingOf mlX6_193 (zRc_of (i := 31) C (by decide) rfl rfl) dX6_allPairs_74 rfl rfl (Nat.le_of_ble_eq_true rfl) (by decide) (fun r12 m12 hr12 hp12 => ?_)
                    obtain ⟨rfl, hp12⟩ := hp12
                    rw [hp12]
                    have h71 := ho7 l (5 + r) (by omega)
                    refine z_aload_n C dX6_allPairs_77 0 rfl ?_
                    refine z_iconst C dX6_allPairs_78 ?_
                    refine z_iload C dX6_allPairs_79 4 rfl ?_
                    refine z_iadd C dX6_allPairs_81 ?_
                    refine z_iload_n C dX6_allPairs_82 3 rfl ?_
                    refine z_callVi C (c_X6_likingOf (zl X) μ v hq ho (5 + r) l (by omega)) yyX6_likingOf mlX6_193 (zRc_of (i := 31) C (by decide) rfl rfl) dX6_allPairs_83 rfl rfl (Nat.le_of_ble_eq_true rfl) (by decide) (fun r13 m13 hr13 hp13 => ?_)
                    obtain ⟨rfl, hp13⟩ := hp13
                    rw [hp13]
                    have h72 := ho7 (5 + r) l (by omega)
                    refine z_iadd C dX6_allPairs_86 ?_
                    refine z_iadd C dX6_allPairs_87 ?_
                    refine z_istore_n C dX6_allPairs_88 (by decide) (L' := [(0, _), (1, _), (2, _), (3, _), (4, _)]) rfl ?_
                    refine z_iinc C dX6_allPairs_89 4 rfl (by decide) (L' := [(0, _), (1, _), (2, _), (3, _), (4, _)]) rfl ?_
                    refine z_goto C dX6_allPairs_92 (tgt := 15) (by decide) ?_
                    exact ih15 _ _ (by omega) (by omega) (by rw [zSum_s _ (by omega), h15_2, show sApR v f w l r = vA v l (5 + r) + vA v (5 + r) l by unfold sApR; rw [if_pos ⟨hg1, hg2⟩, if_neg (by omega)]]; omega) (by omega)
                  · refine z_iconst C dX6_allPairs_64 ?_
                    refine z_goto C dX6_allPairs_65 (tgt := 87) (by decide) ?_
                    refine z_iadd C dX6_allPairs_87 ?_
                    refine z_istore_n C dX6_allPairs_88 (by decide) (L' := [(0, _), (1, _), (2, _), (3, _), (4, _)]) rfl ?_
                    refine z_iinc C dX6_allPairs_89 4 rfl (by decide) (L' := [(0, _), (1, _), (2, _), (3, _), (4, _)]) rfl ?_
                    refine z_goto C dX6_allPairs_92 (tgt := 15) (by decide) ?_
                    exact ih15 _ _ (by omega) (by omega) (by rw [zSum_s _ (by omega), h15_2, show sApR v f w l r = 1 by unfold sApR; rw [if_pos ⟨hg1, hg2⟩, if_pos (by omega)]]; omega) (by omega)
                · have hg2 := hp9
                  refine z_if_ne C dX6_allPairs_53 (tgt := 59) (by decide) (by decide) (fun c14 => (by exfalso; omega)) (fun _ => ?_)
                  refine z_goto C dX6_allPairs_56 (tgt := 89) (by decide) ?_
                  refine z_iinc C dX6_allPairs_89 4 rfl (by decide) (L' := [(0, _), (1, _), (2, _), (3, _), (4, _)]) rfl ?_
                  refine z_goto C dX6_allPairs_92 (tgt := 15) (by decide) ?_
                  exact ih15 _ _ (by omega) (by omega) (by rw [zSum_s _ (by omega), h15_2, show sApR v f w l r = 0 by unfold sApR; rw [if_neg (fun z => hg2 z.2)]]; omega) (by omega)
              · have hg1 := hp6
                rw [← zbit_5 r] at hg1
                refine z_if_eq C dX6_allPairs_36 (tgt := 89) (by decide) (by decide) (fun _ => ?_) (fun c15 => (by exfalso; omega))
                refine z_iinc C dX6_allPairs_89 4 rfl (by decide) (L' := [(0, _), (1, _), (2, _), (3, _), (4, _)]) rfl ?_
                refine z_goto C dX6_allPairs_92 (tgt := 15) (by decide) ?_
                exact ih15 _ _ (by omega) (by omega) (by rw [zSum_s _ (by omega), h15_2, show sApR v f w l r = 0 by unfold sApR; rw [if_neg (fun z => hg1 z.1)]]; omega) (by omega)
        exact LP15 _ y 0 (by omega) (by omega) (by rw [h4_2]; exact (Int.add_zero _).symm) (Nat.lt_succ_self _)
  exact LP4 _ 0 0 (by omega) (by omega) rfl (Nat.lt_succ_self _)
