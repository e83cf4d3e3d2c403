/-! contracts: the reference: the rest but the letters -/
theorem sJd_b {v : zVw} (ho : vOK v) {w : Int → Int} {n : Int} (hn : 0 ≤ n ∧ n ≤ 10) : -9 ≤ sJd v w n ∧ sJd v w n ≤ 20 := by
  obtain ⟨o1, o2, -⟩ := ho
  have key : ∀ (f : Nat) (i : Int), 0 ≤ i → -9 ≤ sJdF v w n f i ∧ sJdF v w n f i ≤ 20 := by
    intro f
    induction f with
    | zero => intro i _; show (-9 : Int) ≤ 0 ∧ (0 : Int) ≤ 20; omega
    | succ f ih =>
      intro i hi
      rw [sJdF]
      split
      · split
        · exact ih _ (by omega)
        · omega
      · split
        · omega
        · split <;> omega
  exact key 11 0 (by omega)
theorem lots_q {μ m : zM} {v : zVw} (h : zQ μ v) (h1 : ∀ x, 0 ≤ x → x < 50 → m 34 x = μ 34 x) (h2 : ∀ x y, (x = 31 ∧ y ≤ 4) ∨ x = 32 ∨ x = 33 → m x y = μ x y) : zQ m v := by
  obtain ⟨q1, q2, q3, q4, q5, q6, q7⟩ := h
  refine ⟨?_, ?_, ?_, ?_, ?_, fun p p0 p1 => ⟨?_, ?_⟩, fun a b hab => ?_⟩
  · rw [h2 31 0 (by omega)]; exact q1
  · rw [h2 31 1 (by omega)]; exact q2
  · rw [h2 31 2 (by omega)]; exact q3
  · rw [h2 31 3 (by omega)]; exact q4
  · rw [h2 31 4 (by omega)]; exact q5
  · rw [h2 32 p (by omega)]; exact (q6 p p0 p1).1
  · rw [h2 33 p (by omega)]; exact (q6 p p0 p1).2
  · rw [h1 _ (by omega) (by omega)]; exact q7 a b hab
theorem im_q {μ m1 m : zM} {v : zVw} (h : zQ μ v) (h0 : ∀ x, 26 ≤ x → m 31 x = m1 31 x) (h1 : m1 31 26 = 1 ∧ m1 31 27 = vL v ∧ m1 31 28 = vR v ∧ m1 31 29 = vS v ∧ m1 31 30 = vH v ∧ m1 31 31 = vW v) (h2 : ∀ x, 0 ≤ x → x < 10 → m 45 x = μ 32 x ∧ m 46 x = μ 33 x) (h3 : ∀ x, 0 ≤ x → x < 50 → m 47 x = μ 34 x) : zQi m v := by
  obtain ⟨q1, q2, q3, q4, q5, q6, q7⟩ := h
  obtain ⟨-, a1, a2, a3, a4, a5⟩ := h1
  refine ⟨?_, ?_, ?_, ?_, ?_, fun p p0 p1 => ⟨?_, ?_⟩, fun a b hab => ?_⟩
  · rw [h0 27 (by omega)]; exact a1
  · rw [h0 28 (by omega)]; exact a2
  · rw [h0 29 (by omega)]; exact a3
  · rw [h0 30 (by omega)]; exact a4
  · rw [h0 31 (by omega)]; exact a5
  · rw [(h2 p p0 p1).1]; exact (q6 p p0 p1).1
  · rw [(h2 p p0 p1).2]; exact (q6 p p0 p1).2
  · rw [h3 _ (by omega) (by omega)]; exact q7 a b hab
theorem on_q {μ m1 m : zM} {v : zVw} (h : zQi μ v) (h0 : ∀ x, x ≤ 4 → m 31 x = m1 31 x) (h1 : m1 31 0 = vL v ∧ m1 31 1 = vR v ∧ m1 31 2 = vS v ∧ m1 31 3 = vH v ∧ m1 31 4 = vW v) (h2 : ∀ x, 0 ≤ x → x < 10 → m 32 x = μ 45 x ∧ m 33 x = μ 46 x) (h3 : ∀ x, 0 ≤ x → x < 50 → m 34 x = μ 47 x) : zQ m v := by
  obtain ⟨q1, q2, q3, q4, q5, q6, q7⟩ := h
  obtain ⟨a1, a2, a3, a4, a5⟩ := h1
  refine ⟨?_, ?_, ?_, ?_, ?_, fun p p0 p1 => ⟨?_, ?_⟩, fun a b hab => ?_⟩
  · rw [h0 0 (by omega)]; exact a1
  · rw [h0 1 (by omega)]; exact a2
  · rw [h0 2 (by omega)]; exact a3
  · rw [h0 3 (by omega)]; exact a4
  · rw [h0 4 (by omega)]; exact a5
  · rw [(h2 p p0 p1).1]; exact (q6 p p0 p1).1
  · rw [(h2 p p0 p1).2]; exact (q6 p p0 p1).2
  · rw [h3 _ (by omega) (by omega)]; exact q7 a b hab
set_option maxHeartbeats 4000000 in
theorem c_X6_truly (l : Launch) (μ : zM) (s : zS) (hs : zRf μ s) (hso : sOK s) (a b : Int) (ha : zR a) (hb : zR b) : zMi l yX6_truly cX6_truly 7 (.int) 5 114 [.inr 31, .inl a, .inl b] μ (fun (r : Int) (m : zM) => r = (tTruly s a b).1 ∧ zRf m (tTruly s a b).2 ∧ ∀ a, (a < 31 ∨ 48 ≤ a) → m a = μ a) := by
  refine zMi_of (own := RX6) (by decide +kernel) rfl (Nat.le_of_ble_eq_true rfl) ?_
  intro X hX C hrm E
  subst hX
  show zJ X 7 μ 0 [(0, .inr 31), (1, .inl a), (2, .inl b)] []
  obtain ⟨hq, hk, hi, hl, hm, hw, hf⟩ := id hs
  obtain ⟨ho, hok, hoi, hon, hot, hom, how⟩ := id hso
  generalize hgv : gV s = v at hq ho
  obtain ⟨hq1, hq2, hq3, hq4, hq5, hq6, hq7⟩ := id hq
  obtain ⟨ho1, ho2, ho3, ho4, ho5, ho6, ho7⟩ := id ho
  have hN := vN_ok ho
  refine z_aload_n C dX6_truly_0 0 rfl ?_
  refine z_iload_n C dX6_truly_1 1 rfl ?_
  refine z_iload_n C dX6_truly_2 2 rfl ?_
  refine z_callVi C (c_X6_areTwo (zl X) μ v hq ho a b (by omega) (by omega)) yyX6_areTwo mlX6_216 (zRc_of (i := 31) C (by decide) rfl rfl) dX6_truly_3 rfl rfl (Nat.le_of_ble_eq_true rfl) (by decide) (fun r1 m1 hr1 hp1 => ?_)
  obtain ⟨rfl, hp1⟩ := hp1
  rcases hp1 with ⟨rfl, hp1⟩ | ⟨rfl, hp1⟩
  · refine z_if_ne C dX6_truly_6 (tgt := 15) (by decide) (by decide) (fun _ => ?_) (fun c2 => (by exfalso; omega))
    have hab := hp1
    refine z_aload_n C dX6_truly_15 0 rfl ?_
    refine z_iload_n C dX6_truly_16 1 rfl ?_
    refine z_iload_n C dX6_truly_17 2 rfl ?_
    refine z_callVi C (c_X6_likingOf (zl X) μ v hq ho a b (by omega)) yyX6_likingOf mlX6_193 (zRc_of (i := 31) C (by decide) rfl rfl) dX6_truly_18 rfl rfl (Nat.le_of_ble_eq_true rfl) (by decide) (fun r3 m3 hr3 hp3 => ?_)
    obtain ⟨rfl, hp3⟩ := hp3
    rw [hp3]
    refine z_istore_n C dX6_truly_21 (by decide) (L' := [(0, _), (1, _), (2, _), (3, _)]) rfl ?_
    have h7 := ho7 a b (by omega)
    refine z_aload_n C dX6_truly_22 0 rfl ?_
    refine z_iload_n C dX6_truly_23 1 rfl ?_
    refine z_iload_n C dX6_truly_24 2 rfl ?_
    refine z_callVi C (c_X6_saysYes (zl X) μ v hq ho a b (by omega) (by omega)) yyX6_saysYes mlX6_209 (zRc_of (i := 31) C (by decide) rfl rfl) dX6_truly_25 rfl rfl (Nat.le_of_ble_eq_true rfl) (by decide) (fun r4 m4 hr4 hp4 => ?_)
    obtain ⟨rfl, hp4⟩ := hp4
    have hy0 := hp4
    have hyr : r4 = 0 ∨ r4 = 1 := by omega
    refine z_istore C dX6_truly_28 (by decide) (L' := [(0, _), (1, _), (2, _), (3, _), (4, _)]) rfl ?_
    refine z_iconst C dX6_truly_30 ?_
    refine z_istore C dX6_truly_31 (by decide) (L' := [(0, _), (1, _), (2, _), (3, _), (4, _), (5, _)]) rfl ?_
    refine z_iconst C dX6_truly_33 ?_
    refine z_istore C dX6_truly_34 (by decide) (L' := [(0, _), (1, _), (2, _), (3, _), (4, _), (5, _), (6, _)]) rfl ?_
    have LP36 : ∀ (N36 : Nat) (y : Int) (z : Int) (c : Int) (mb : zM), (0 ≤ z) → (z ≤ 10) → (y = sTrN v a b z.toNat) → (zQ mb (vLike v a b c)) → (∀ x y, ¬ (x = 34 ∧ y = 5 * a + b % 5) → mb x y = μ x y) → (11 - z).toNat < N36 → zJ X 7 mb 36 [(0, .inr 31), (1, .inl a), (2, .inl b), (3, .inl (vA v a b)), (4, .inl r4), (5, .inl y), (6, .inl z)] [] := by
      intro N36
      induction N36 with
      | zero => intro y z c mb h36_0 h36_1 h36_2 h36_3 h36_4 hN; exact absurd hN (Nat.not_lt_zero _)
      | succ N36 ih36 =>
        intro y z c mb h36_0 h36_1 h36_2 h36_3 h36_4 hN36
        have hyb := sTrN_b v a b z.toNat (by omega)
        refine z_iload C dX6_truly_36 6 rfl ?_
        refine z_bipush C dX6_truly_38 (by decide) ?_
        refine z_icmp_ge C dX6_truly_40 (tgt := 87) (by decide) (by omega) (by decide) (fun c5 => ?_) (fun c5 => ?_)
        · refine z_aload_n C dX6_truly_87 0 rfl ?_
          refine z_getR C ffX6_38 dX6_truly_88 (by decide) rfl rfl ?_
          refine z_iconst C dX6_truly_91 ?_
          refine z_iload_n C dX6_truly_92 1 rfl ?_
          refine z_imul C dX6_truly_93 ?_
          refine z_iload_n C dX6_truly_94 2 rfl ?_
          refine z_iconst C dX6_truly_95 ?_
          refine z_irem C dX6_truly_96 (by omega) ?_
          refine z_iadd C dX6_truly_97 ?_
          refine z_iload_n C dX6_truly_98 3 rfl ?_
          refine z_iast C dX6_truly_99 (by decide) rfl (by omega) (by decide) (by omega) ?_
          refine z_mem (fun m6 em6 => ?_)
          have hME : m6 = μ := zM_ext fun x y => by
            by_cases e1 : x = 34 ∧ y = 5 * a + b % 5
            · rw [e1.1, e1.2, em6, zs_self]; exact (hq7 a b (by omega)).symm
            rw [em6, zs_o _ _ e1]
            exact h36_4 x y e1
          refine z_iload C dX6_truly_100 5 rfl ?_
          exact E dX6_truly_102 (by omega) rfl (t_fin (P := zRf) (show tTruly s a b = (y, s) by unfold tTruly; (first | rw [hgv] | skip); rw [if_pos (by omega), h36_2, show z.toNat = 10 by omega]) (by rw [hME]; exact hs) (fun a _ => by rw [hME]))
        · refine z_aload_n C dX6_truly_43 0 rfl ?_
          refine z_getR C ffX6_38 dX6_truly_44 (by decide) rfl rfl ?_
          refine z_iconst C dX6_truly_47 ?_
          refine z_iload_n C dX6_truly_48 1 rfl ?_
          refine z_imul C dX6_truly_49 ?_
          refine z_iload_n C dX6_truly_50 2 rfl ?_
          refine z_iconst C dX6_truly_51 ?_
          refine z_irem C dX6_truly_52 (by omega) ?_
          refine z_iadd C dX6_truly_53 ?_
          refine z_iload C dX6_truly_54 6 rfl ?_
          refine z_iast C dX6_truly_56 (by decide) rfl (by omega) (by decide) (by omega) ?_
          refine z_mem (fun m7 em7 => ?_)
          have hVL : vL (vLike v a b z) = vL v := rfl
          have hVR : vR (vLike v a b z) = vR v := rfl
          have hO : vOK (vLike v a b z) := vLike_ok ho (by omega)
          have hT6 : zQ m7 (vLike v a b z) := by rw [em7, ← vLike_2 v a b c z]; exact zQ_like h36_3 (by omega)
          refine z_iload C dX6_truly_57 5 rfl ?_
          refine z_aload_n C dX6_truly_59 0 rfl ?_
          refine z_iload_n C dX6_truly_60 1 rfl ?_
          refine z_iload_n C dX6_truly_61 2 rfl ?_
          refine z_callVi C (c_X6_saysYes (zl X) m7 (vLike v a b z) hT6 hO a b (by omega) (by omega)) yyX6_saysYes mlX6_209 (zRc_of (i := 31) C (by decide) rfl rfl) dX6_truly_62 rfl rfl (Nat.le_of_ble_eq_true rfl) (by decide) (fun r8 m8 hr8 hp8 => ?_)
          obtain ⟨rfl, hp8⟩ := hp8
          have hz0 := hp8
          have hzr : r8 = 0 ∨ r8 = 1 := by omega
          refine z_iload C dX6_truly_65 4 rfl ?_
          refine z_icmp_ne C dX6_truly_67 (tgt := 77) (by decide) (by omega) (by omega) (fun c9 => ?_) (fun c9 => ?_)
          · refine z_iconst C dX6_truly_77 ?_
            have hsb := zor_z y (by omega) (by omega) z (by omega) (by omega)
            have hs0 := zor_0 (s := y) (by omega)
            refine z_ior C dX6_truly_78 ?_
            refine z_istore C dX6_truly_79 (by decide) (L' := [(0, _), (1, _), (2, _), (3, _), (4, _), (5, _), (6, _)]) rfl ?_
            refine z_iinc C dX6_truly_81 6 rfl (by decide) (L' := [(0, _), (1, _), (2, _), (3, _), (4, _), (5, _), (6, _)]) rfl ?_
            refine z_goto C dX6_truly_84 (tgt := 36) (by decide) ?_
            exact ih36 _ _ z m7 (by omega) (by omega) (by rw [sTrN_s v a b (by omega), if_neg (by omega), h36_2, ← h36_2, zor_0 (by omega)]) hT6 (fun x w e => by rw [em7, zs_o _ _ e]; exact h36_4 x w e) (by omega)
          · refine z_iconst C dX6_truly_70 ?_
            refine z_iload C dX6_truly_71 6 rfl ?_
            refine z_ishl C dX6_truly_73 ?_
            refine z_goto C dX6_truly_74 (tgt := 78) (by decide) ?_
            have hsb := zor_z y (by omega) (by omega) z (by omega) (by omega)
            have hs0 := zor_0 (s := y) (by omega)
            refine z_ior C dX6_truly_78 ?_
            refine z_istore C dX6_truly_79 (by decide) (L' := [(0, _), (1, _), (2, _), (3, _), (4, _), (5, _), (6, _)]) rfl ?_
            refine z_iinc C dX6_truly_81 6 rfl (by decide) (L' := [(0, _), (1, _), (2, _), (3, _), (4, _), (5, _), (6, _)]) rfl ?_
            refine z_goto C dX6_truly_84 (tgt := 36) (by decide) ?_
            exact ih36 _ _ z m7 (by omega) (by omega) (by rw [sTrN_s v a b (by omega), if_pos (by omega), h36_2]) hT6 (fun x w e => by rw [em7, zs_o _ _ e]; exact h36_4 x w e) (by omega)
    exact LP36 _ 0 0 (vA v a b) μ (by omega) (by omega) rfl (by rw [vLike_id]; exact hq) (fun _ _ _ => rfl) (Nat.lt_succ_self _)
  · refine z_if_ne C dX6_truly_6 (tgt := 15) (by decide) (by decide) (fun c10 => (by exfalso; omega)) (fun _ => ?_)
    refine z_aload_n C dX6_truly_9 0 rfl ?_
    refine z_iconst C dX6_truly_10 ?_
    refine z_callVi C (c_X6_no (zl X) μ 1 (by omega)) yyX6_no mlX6_128 (zRc_of (i := 31) C (by decide) rfl rfl) dX6_truly_11 rfl rfl (Nat.le_of_ble_eq_true rfl) (by decide) (fun r11 m11 hr11 hp11 => ?_)
    rw [hp11.1]
    exact E dX6_truly_14 (by decide) rfl (t_fin (P := zRf) (show tTruly s a b = ((-1), pF s 1) by unfold tTruly; (first | rw [hgv] | skip); repeat (first | rw [if_pos (by omega)] | rw [if_neg (by omega)])) (by rw [hp11.2]; exact zRf_F hs (by omega)) (fun a _ => by rw [hp11.2, zs_ne _ _ _ (by omega)]))
set_option maxHeartbeats 4000000 in
theorem c_X6_nth (l : Launch) (μ : zM) (v : zVw) (hq : zQ μ v) (ho : vOK v) (i : Int) (hi : 0 ≤ i ∧ i ≤ 10) : zMi l yX6_nth cX6_nth 2 (.int) 0 0 [.inr 31, .inl i] μ (fun (r : Int) (m : zM) => μ = m ∧ r = sNth v i) := by
  refine zMi_of (own := RX6) (by decide +kernel) rfl (Nat.le_of_ble_eq_true rfl) ?_
  intro X hX C hrm E
  subst hX
  show zJ X 2 μ 0 [(0, .inr 31), (1, .inl i)] []
  obtain ⟨hq1, hq2, hq3, hq4, hq5, hq6, hq7⟩ := id hq
  obtain ⟨ho1, ho2, ho3, ho4, ho5, ho6, ho7⟩ := id ho
  have hN := vN_ok ho
  refine z_iload_n C dX6_nth_0 1 rfl ?_
  refine z_aload_n C dX6_nth_1 0 rfl ?_
  refine z_getI C ffX6_7 dX6_nth_2 (by decide) rfl rfl 0 rfl (fun hr1 => ?_)
  refine z_icmp_ge C dX6_nth_5 (tgt := 12) (by decide) (by omega) (by omega) (fun c2 => ?_) (fun c2 => ?_)
  · refine z_iconst C dX6_nth_12 ?_
    refine z_iload_n C dX6_nth_13 1 rfl ?_
    refine z_iadd C dX6_nth_14 ?_
    refine z_aload_n C dX6_nth_15 0 rfl ?_
    refine z_getI C ffX6_7 dX6_nth_16 (by decide) rfl rfl 0 rfl (fun hr3 => ?_)
    refine z_isub C dX6_nth_19 ?_
    exact E dX6_nth_20 (by omega) rfl ⟨rfl, (by unfold sNth; split <;> omega)⟩
  · refine z_iload_n C dX6_nth_8 1 rfl ?_
    refine z_goto C dX6_nth_9 (tgt := 20) (by decide) ?_
    exact E dX6_nth_20 (by omega) rfl ⟨rfl, (by unfold sNth; split <;> omega)⟩
set_option maxHeartbeats 4000000 in
theorem c_X6_judged (l : Launch) (μ : zM) (s : zS) (hs : zRf μ s) (hso : sOK s) : zMi l yX6_judged cX6_judged 3 (.int) 6 137 [.inr 31] μ (fun (r : Int) (m : zM) => μ = m ∧ r = sJd (gV s) (gW s) (gM s)) := by
  refine zMi_of (own := RX6) (by decide +kernel) rfl (Nat.le_of_ble_eq_true rfl) ?_
  intro X hX C hrm E
  subst hX
  show zJ X 3 μ 0 [(0, .inr 31)] []
  obtain ⟨hq, hk, hi, hl, hm, hw, hf⟩ := id hs
  obtain ⟨ho, hok, hoi, hon, hot, hom, how⟩ := id hso
  generalize hgv : gV s = v at hq ho
  obtain ⟨hq1, hq2, hq3, hq4, hq5, hq6, hq7⟩ := id hq
  obtain ⟨ho1, ho2, ho3, ho4, ho5, ho6, ho7⟩ := id ho
  have hN := vN_ok ho
  refine z_aload_n C dX6_judged_0 0 rfl ?_
  refine z_getI C ffX6_7 dX6_judged_1 (by decide) rfl rfl 0 rfl (fun hr1 => ?_)
  rw [hq1]
  refine z_aload_n C dX6_judged_4 0 rfl ?_
  refine z_getI C ffX6_13 dX6_judged_5 (by decide) rfl rfl 1 rfl (fun hr2 => ?_)
  rw [hq2]
  refine z_iadd C dX6_judged_8 ?_
  refine z_istore_n C dX6_judged_9 (by decide) (L' := [(0, _), (1, _)]) rfl ?_
  refine z_iconst C dX6_judged_10 ?_
  refine z_istore_n C dX6_judged_11 (by decide) (L' := [(0, _), (1, _), (2, _)]) rfl ?_
  have LP12 : ∀ (N12 : Nat) (i : Int), (0 ≤ i) → (i ≤ gM s) → (sJd v (gW s) (gM s) = sJdF v (gW s) (gM s) (11 - i).toNat i) → (11 - i).toNat < N12 → zJ X 3 μ 12 [(0, .inr 31), (1, .inl ((vL v) + (vR v))), (2, .inl i)] [] := by
    intro N12
    induction N12 with
    | zero => intro i h12_0 h12_1 h12_2 hN; exact absurd hN (Nat.not_lt_zero _)
    | succ N12 ih12 =>
      intro i h12_0 h12_1 h12_2 hN12
      refine z_iload_n C dX6_judged_12 2 rfl ?_
      refine z_aload_n C dX6_judged_13 0 rfl ?_
      refine z_getI C ffX6_28 dX6_judged_14 (by decide) rfl rfl 6 rfl (fun hr3 => ?_)
      rw [hm]
      refine z_icmp_ge C dX6_judged_17 (tgt := 51) (by decide) (by omega) (by omega) (fun c4 => ?_) (fun c4 => ?_)
      · refine z_aload_n C dX6_judged_51 0 rfl ?_
        refine z_getI C ffX6_28 dX6_judged_52 (by decide) rfl rfl 6 rfl (fun hr5 => ?_)
        rw [hm]
        refine z_iload_n C dX6_judged_55 1 rfl ?_
        refine z_icmp_ge C dX6_judged_56 (tgt := 66) (by decide) (by omega) (by omega) (fun c6 => ?_) (fun c6 => ?_)
        · refine z_aload_n C dX6_judged_66 0 rfl ?_
          refine z_getI C ffX6_28 dX6_judged_67 (by decide) rfl rfl 6 rfl (fun hr7 => ?_)
          rw [hm]
          refine z_iload_n C dX6_judged_70 1 rfl ?_
          refine z_icmp_le C dX6_judged_71 (tgt := 78) (by decide) (by omega) (by omega) (fun c8 => ?_) (fun c8 => ?_)
          · refine z_bipush C dX6_judged_78 (by decide) ?_
            exact E dX6_judged_80 (by decide) rfl ⟨rfl, (by rw [hgv, h12_2, sJdF_s v (gW s) (gM s) (by omega), if_neg (by omega), if_pos (by omega)])⟩
          · refine z_iload_n C dX6_judged_74 1 rfl ?_
            refine z_goto C dX6_judged_75 (tgt := 80) (by decide) ?_
            exact E dX6_judged_80 (by omega) rfl ⟨rfl, (by rw [hgv, h12_2, sJdF_s v (gW s) (gM s) (by omega), if_neg (by omega), if_neg (by omega), if_neg (by omega)])⟩
        · refine z_aload_n C dX6_judged_59 0 rfl ?_
          refine z_getI C ffX6_28 dX6_judged_60 (by decide) rfl rfl 6 rfl (fun hr9 => ?_)
          rw [hm]
          refine z_goto C dX6_judged_63 (tgt := 80) (by decide) ?_
          exact E dX6_judged_80 (by omega) rfl ⟨rfl, (by rw [hgv, h12_2, sJdF_s v (gW s) (gM s) (by omega), if_neg (by omega), if_neg (by omega), if_pos (by omega)])⟩
      · refine z_iload_n C dX6_judged_20 2 rfl ?_
        refine z_iload_n C dX6_judged_21 1 rfl ?_
        refine z_icmp_ge C dX6_judged_22 (tgt := 51) (by decide) (by omega) (by omega) (fun c10 => ?_) (fun c10 => ?_)
        · refine z_aload_n C dX6_judged_51 0 rfl ?_
          refine z_getI C ffX6_28 dX6_judged_52 (by decide) rfl rfl 6 rfl (fun hr11 => ?_)
          rw [hm]
          refine z_iload_n C dX6_judged_55 1 rfl ?_
          refine z_icmp_ge C dX6_judged_56 (tgt := 66) (by decide) (by omega) (by omega) (fun c12 => ?_) (fun c12 => ?_)
          · refine z_aload_n C dX6_judged_66 0 rfl ?_
            refine z_getI C ffX6_28 dX6_judged_67 (by decide) rfl rfl 6 rfl (fun hr13 => ?_)
            rw [hm]
            refine z_iload_n C dX6_judged_70 1 rfl ?_
            refine z_icmp_le C dX6_judged_71 (tgt := 78) (by decide) (by omega) (by omega) (fun c14 => ?_) (fun c14 => ?_)
            · refine z_bipush C dX6_judged_78 (by decide) ?_
              exact E dX6_judged_80 (by decide) rfl ⟨rfl, (by rw [hgv, h12_2, sJdF_s v (gW s) (gM s) (by omega), if_neg (by omega), if_pos (by omega)])⟩
            · refine z_iload_n C dX6_judged_74 1 rfl ?_
              refine z_goto C dX6_judged_75 (tgt := 80) (by decide) ?_
              exact E dX6_judged_80 (by omega) rfl ⟨rfl, (by rw [hgv, h12_2, sJdF_s v (gW s) (gM s) (by omega), if_neg (by omega), if_neg (by omega), if_neg (by omega)])⟩
          · refine z_aload_n C dX6_judged_59 0 rfl ?_
            refine z_getI C ffX6_28 dX6_judged_60 (by decide) rfl rfl 6 rfl (fun hr15 => ?_)
            rw [hm]
            refine z_goto C dX6_judged_63 (tgt := 80) (by decide) ?_
            exact E dX6_judged_80 (by omega) rfl ⟨rfl, (by rw [hgv, h12_2, sJdF_s v (gW s) (gM s) (by omega), if_neg (by omega), if_neg (by omega), if_pos (by omega)])⟩
        · refine z_aload_n C dX6_judged_25 0 rfl ?_
          refine z_aload_n C dX6_judged_26 0 rfl ?_
          refine z_iload_n C dX6_judged_27 2 rfl ?_
          refine z_callVi C (c_X6_nth (zl X) μ v hq ho i (by omega)) yyX6_nth mlX6_271 (zRc_of (i := 31) C (by decide) rfl rfl) dX6_judged_28 rfl rfl (Nat.le_of_ble_eq_true rfl) (by decide) (fun r16 m16 hr16 hp16 => ?_)
          obtain ⟨rfl, hp16⟩ := hp16
          rw [hp16]
          have hnth : vTh v (sNth v i) := by unfold sNth; split <;> omega
          refine z_callVi C (c_X6_yesesOf (zl X) μ v hq ho (sNth v i) (by omega)) yyX6_yesesOf mlX6_223 (zRc_of (i := 31) C (by decide) rfl rfl) dX6_judged_31 rfl rfl (Nat.le_of_ble_eq_true rfl) (by decide) (fun r17 m17 hr17 hp17 => ?_)
          obtain ⟨rfl, hp17⟩ := hp17
          rw [hp17]
          have hsb2 : 0 ≤ sSl v (sNth v i) ∧ sSl v (sNth v i) < 32 := sSlN_b ho (sNth v i) 5
          refine z_aload_n C dX6_judged_34 0 rfl ?_
          refine z_getR C ffX6_44 dX6_judged_35 (by decide) rfl rfl ?_
          refine z_iload_n C dX6_judged_38 2 rfl ?_
          refine z_iald C dX6_judged_39 (by decide) rfl (by omega) (by decide) (fun hr18 => ?_)
          rw [hw i (by omega) (by omega)]
          have hwb := how i (by omega) (by omega)
          refine z_icmp_eq C dX6_judged_40 (tgt := 45) (by decide) (by omega) (by omega) (fun c19 => ?_) (fun c19 => ?_)
          · refine z_iinc C dX6_judged_45 2 rfl (by decide) (L' := [(0, _), (1, _), (2, _)]) rfl ?_
            refine z_goto C dX6_judged_48 (tgt := 12) (by decide) ?_
            exact ih12 _ (by omega) (by omega) (by rw [h12_2, sJdF_s v (gW s) (gM s) (by omega), if_pos (by omega), if_pos (by omega)]) (by omega)
          · refine z_iload_n C dX6_judged_43 2 rfl ?_
            exact E dX6_judged_44 (by omega) rfl ⟨rfl, (by rw [hgv, h12_2, sJdF_s v (gW s) (gM s) (by omega), if_pos (by omega), if_neg (by omega)])⟩
  exact LP12 _ 0 (by omega) (by omega) (by rw [Int.sub_zero]; rfl) (Nat.lt_succ_self _)
set_option maxHeartbeats 4000000 in
theorem c_X6_judge (l : Launch) (μ : zM) (s : zS) (hs : zRf μ s) (hso : sOK s) : zMi l yX6_judge cX6_judge 2 (.int) 7 159 [.inr 31] μ (fun (r : Int) (m : zM) => r = (tJudge s).1 ∧ zRf m (tJudge s).2 ∧ ∀ a, (a < 31 ∨ 48 ≤ a) → m a = μ a) := by
  refine zMi_of (own := RX6) (by decide +kernel) rfl (Nat.le_of_ble_eq_true rfl) ?_
  intro X hX C hrm E
  subst hX
  show zJ X 2 μ 0 [(0, .inr 31)] []
  obtain ⟨hq, hk, hi, hl, hm, hw, hf⟩ := id hs
  obtain ⟨ho, hok, hoi, hon, hot, hom, how⟩ := id hso
  generalize hgv : gV s = v at hq ho
  obtain ⟨hq1, hq2, hq3, hq4, hq5, hq6, hq7⟩ := id hq
  obtain ⟨ho1, ho2, ho3, ho4, ho5, ho6, ho7⟩ := id ho
  have hN := vN_ok ho
  refine z_aload_n C dX6_judge_0 0 rfl ?_
  refine z_callVi C (c_X6_judged (zl X) μ s hs hso) yyX6_judged mlX6_274 (zRc_of (i := 31) C (by decide) rfl rfl) dX6_judge_1 rfl rfl (Nat.le_of_ble_eq_true rfl) (by decide) (fun r1 m1 hr1 hp1 => ?_)
  obtain ⟨rfl, hp1⟩ := hp1
  rw [hp1, hgv]
  have hjb := sJd_b ho (w := gW s) hom
  refine z_istore_n C dX6_judge_4 (by decide) (L' := [(0, _), (1, _)]) rfl ?_
  refine z_aload_n C dX6_judge_5 0 rfl ?_
  refine z_iconst C dX6_judge_6 ?_
  refine z_putI C ffX6_28 fp6_6 dX6_judge_7 (by decide) rfl rfl 6 rfl (by decide) ?_
  refine z_mem (fun m2 em2 => ?_)
  refine z_iload_n C dX6_judge_10 1 rfl ?_
  exact E dX6_judge_11 (by omega) rfl (t_fin (P := zRf) (show tJudge s = (sJd v (gW s) (gM s), pM s) by unfold tJudge; (first | rw [hgv] | skip); repeat (first | rw [if_pos (by omega)] | rw [if_neg (by omega)])) (by rw [em2]; exact zRf_M hs) (fun a _ => by rw [em2, zs_ne _ _ _ (by omega)]))
set_option maxHeartbeats 4000000 in
theorem c_X6_clear (l : Launch) (μ : zM) (s : zS) (hs : zRf μ s) (hso : sOK s) : zMi l yX6_clear cX6_clear 2 (.int) 0 0 [.inr 31] μ (fun (r : Int) (m : zM) => r = (tClear s).1 ∧ zRf m (tClear s).2 ∧ ∀ a, (a < 31 ∨ 48 ≤ a) → m a = μ a) := by
  refine zMi_of (own := RX6) (by decide +kernel) rfl (Nat.le_of_ble_eq_true rfl) ?_
  intro X hX C hrm E
  subst hX
  show zJ X 2 μ 0 [(0, .inr 31)] []
  obtain ⟨hq, hk, hi, hl, hm, hw, hf⟩ := id hs
  obtain ⟨ho, hok, hoi, hon, hot, hom, how⟩ := id hso
  generalize hgv : gV s = v at hq ho
  obtain ⟨hq1, hq2, hq3, hq4, hq5, hq6, hq7⟩ := id hq
  obtain ⟨ho1, ho2, ho3, ho4, ho5, ho6, ho7⟩ := id ho
  have hN := vN_ok ho
  refine z_aload_n C dX6_clear_0 0 rfl ?_
  refine z_getI C ffX6_28 dX6_clear_1 (by decide) rfl rfl 6 rfl (fun hr1 => ?_)
  rw [hm]
  refine z_istore_n C dX6_clear_4 (by decide) (L' := [(0, _), (1, _)]) rfl ?_
  refine z_aload_n C dX6_clear_5 0 rfl ?_
  refine z_iconst C dX6_clear_6 ?_
  refine z_putI C ffX6_28 fp6_6 dX6_clear_7 (by decide) rfl rfl 6 rfl (by decide) ?_
  refine z_mem (fun m2 em2 => ?_)
  refine z_iload_n C dX6_clear_10 1 rfl ?_
  exact E dX6_clear_11 (by omega) rfl (t_fin (P := zRf) (show tClear s = (gM s, pM s) by unfold tClear; (first | rw [hgv] | skip); rfl) (by rw [em2]; exact zRf_M hs) (fun a _ => by rw [em2, zs_ne _ _ _ (by omega)]))
set_option maxHeartbeats 4000000 in
theorem c_X6_draw (l : Launch) (μ : zM) (z : Int) (hz : μ 31 24 = z) (hzr : zR z) : zMi l yX6_draw cX6_draw 2 (.int) 0 0 [.inr 31, .inl 10] μ (fun (r : Int) (m : zM) => r = sDv (sDz z) ∧ m = zs μ 31 24 (sDz z)) := by
  refine zMi_of (own := RX6) (by decide +kernel) rfl (Nat.le_of_ble_eq_true rfl) ?_
  intro X hX C hrm E
  subst hX
  show zJ X 2 μ 0 [(0, .inr 31), (1, .inl 10)] []
  refine z_aload_n C dX6_draw_0 0 rfl ?_
  refine z_aload_n C dX6_draw_1 0 rfl ?_
  refine z_getI C ffX6_83 dX6_draw_2 (by decide) rfl rfl 24 rfl (fun hr1 => ?_)
  rw [hz]
  refine z_ldcw C (n := 1664525) dX6_draw_5 kkX6_277 ?_
  refine z_imul C dX6_draw_8 ?_
  refine z_ldcw C (n := 1013904223) dX6_draw_9 kkX6_278 ?_
  refine z_iadd C dX6_draw_12 ?_
  refine z_putIw C ffX6_83 fp6_24 dX6_draw_13 (by decide) rfl rfl 24 rfl ?_
  refine z_mem (fun m2 em2 => ?_)
  refine z_aload_n C dX6_draw_16 0 rfl ?_
  refine z_getI C ffX6_83 dX6_draw_17 (by decide) rfl rfl 24 rfl (fun hr3 => ?_)
  rw [show m2 31 24 = sDz z by rw [em2, zs_self, zDz]]
  have hzp := zand_pos (sDz z)
  have hvb := sDv_b (sDz z)
  have hzR : zR (sDz z) := zw_R _
  refine z_ldcw C (n := 2147483647) dX6_draw_20 kkX6_279 ?_
  refine z_iand C dX6_draw_23 ?_
  refine z_sipush C dX6_draw_24 (by decide) ?_
  refine z_idiv C dX6_draw_27 (by omega) ?_
  refine z_iload_n C dX6_draw_28 1 rfl ?_
  refine z_irem C dX6_draw_29 (by omega) ?_
  rw [show zand (sDz z) 2147483647 / 256 % 10 = sDv (sDz z) from rfl]
  exact E dX6_draw_30 (by omega) rfl ⟨rfl, (by rw [em2, zDz])⟩
set_option maxHeartbeats 4000000 in
theorem c_X6_lots (l : Launch) (μ : zM) (s : zS) (hs : zRf μ s) (hso : sOK s) (n z : Int) (hn : zR n) (hzz : zR z) : zMi l yX6_lots cX6_lots 7 (.int) 7 163 [.inr 31, .inl n, .inl z] μ (fun (r : Int) (m : zM) => r = (tLots s n z).1 ∧ zRf m (tLots s n z).2 ∧ ∀ a, (a < 31 ∨ 48 ≤ a) → m a = μ a) := by
  refine zMi_of (own := RX6) (by decide +kernel) rfl (Nat.le_of_ble_eq_true rfl) ?_
  intro X hX C hrm E
  subst hX
  show zJ X 7 μ 0 [(0, .inr 31), (1, .inl n), (2, .inl z)] []
  obtain ⟨hq, hk, hi, hl, hm, hw, hf⟩ := id hs
  obtain ⟨ho, hok, hoi, hon, hot, hom, how⟩ := id hso
  generalize hgv : gV s = v at hq ho
  obtain ⟨hq1, hq2, hq3, hq4, hq5, hq6, hq7⟩ := id hq
  obtain ⟨ho1, ho2, ho3, ho4, ho5, ho6, ho7⟩ := id ho
  have hN := vN_ok ho
  refine z_iload_n C dX6_lots_0 1 rfl ?_
  refine z_iconst C dX6_lots_1 ?_
  refine z_icmp_ge C dX6_lots_2 (tgt := 12) (by decide) (by omega) (by decide) (fun c1 => ?_) (fun c1 => ?_)
  · refine z_iload_n C dX6_lots_12 1 rfl ?_
    refine z_bipush C dX6_lots_13 (by decide) ?_
    refine z_icmp_le C dX6_lots_15 (tgt := 25) (by decide) (by omega) (by decide) (fun c2 => ?_) (fun c2 => ?_)
    · refine z_iconst C dX6_lots_25 ?_
      refine z_istore_n C dX6_lots_26 (by decide) (L' := [(0, _), (1, _), (2, _), (3, _)]) rfl ?_
      have LP27 : ∀ (N27 : Nat) (j : Int) (ma : zM), (0 ≤ j) → (j ≤ 50) → (∀ x, 0 ≤ x → x < j → ma 44 x = μ 34 x) → (∀ x, ¬ x = 44 → ma x = μ x) → (51 - j).toNat < N27 → zJ X 7 ma 27 [(0, .inr 31), (1, .inl n), (2, .inl z), (3, .inl j)] [] := by
        intro N27
        induction N27 with
        | zero => intro j ma h27_0 h27_1 h27_2 h27_3 hN; exact absurd hN (Nat.not_lt_zero _)
        | succ N27 ih27 =>
          intro j ma h27_0 h27_1 h27_2 h27_3 hN27
          refine z_iload_n C dX6_lots_27 3 rfl ?_
          refine z_bipush C dX6_lots_28 (by decide) ?_
          refine z_icmp_ge C dX6_lots_30 (tgt := 51) (by decide) (by omega) (by decide) (fun c3 => ?_) (fun c3 => ?_)
          · refine z_aload_n C dX6_lots_51 0 rfl ?_
            refine z_iload_n C dX6_lots_52 2 rfl ?_
            refine z_putI C ffX6_83 fp6_24 dX6_lots_53 (by decide) rfl rfl 24 rfl (by omega) ?_
            refine z_mem (fun m4 em4 => ?_)
            refine z_iconst C dX6_lots_56 ?_
            refine z_istore_n C dX6_lots_57 (by decide) (L' := [(0, _), (1, _), (2, _), (3, _)]) rfl ?_
            refine z_iconst C dX6_lots_58 ?_
            refine z_istore C dX6_lots_59 (by decide) (L' := [(0, _), (1, _), (2, _), (3, _), (4, _)]) rfl ?_
            have LP61 : ∀ (N61 : Nat) (g : Int) (t : Int) (mb : zM), (0 ≤ t) → (t ≤ n) → (g = (sLo v z t.toNat).1) → (mb 31 24 = (sLo v z t.toNat).2.1) → (zQ mb (sLo v z t.toNat).2.2) → (∀ x y, ¬ x = 34 → ¬ (38 ≤ x ∧ x ≤ 41) → ¬ x = 44 → ¬ (x = 31 ∧ y = 24) → mb x y = μ x y) → (∀ j, 0 ≤ j → j < 50 → mb 44 j = μ 34 j) → (21 - t).toNat < N61 → zJ X 7 mb 61 [(0, .inr 31), (1, .inl n), (2, .inl z), (3, .inl g), (4, .inl t)] [] := by
              intro N61
              induction N61 with
              | zero => intro g t mb h61_0 h61_1 h61_2 h61_3 h61_4 h61_5 h61_6 hN; exact absurd hN (Nat.not_lt_zero _)
              | succ N61 ih61 =>
                intro g t mb h61_0 h61_1 h61_2 h61_3 h61_4 h61_5 h61_6 hN61
                have hLk := sLo_k ho hzz t.toNat
                have hLb := sLo_b ho hzz t.toNat
                have hX0 : vSame (sLo v z t.toNat).2.2 (sLo v z t.toNat).2.2 ∧ vOK (sLo v z t.toNat).2.2 ∧ zR (sLo v z t.toNat).2.1 := ⟨vSame_r _, hLk.2.1, hLk.2.2⟩
                have hLL : vL (sLo v z t.toNat).2.2 = vL v := hLk.1.1
                have hLR : vR (sLo v z t.toNat).2.2 = vR v := hLk.1.2.1
                have hnl : ∀ i, sNth (sLo v z t.toNat).2.2 i = sNth v i := fun i => by unfold sNth; rw [hLL]
                have hfl : ∀ p, vF (sLo v z t.toNat).2.2 p = vF v p := fun p => by unfold vF; rw [hLL, hLR]
                refine z_iload C dX6_lots_61 4 rfl ?_
                refine z_iload_n C dX6_lots_63 1 rfl ?_
                refine z_icmp_ge C dX6_lots_64 (tgt := 158) (by decide) (by omega) (by omega) (fun c5 => ?_) (fun c5 => ?_)
                · refine z_iconst C dX6_lots_158 ?_
                  refine z_istore C dX6_lots_159 (by decide) (L' := [(0, _), (1, _), (2, _), (3, _), (4, _)]) rfl ?_
                  have LP161 : ∀ (N161 : Nat) (j : Int) (me : zM), (0 ≤ j) → (j ≤ 50) → (∀ x, 0 ≤ x → x < j → me 34 x = μ 34 x) → (∀ x y, ¬ x = 34 → ¬ (38 ≤ x ∧ x ≤ 41) → ¬ x = 44 → ¬ (x = 31 ∧ y = 24) → me x y = μ x y) → (∀ j, 0 ≤ j → j < 50 → me 44 j = μ 34 j) → (51 - j).toNat < N161 → zJ X 7 me 161 [(0, .inr 31), (1, .inl n), (2, .inl z), (3, .inl g), (4, .inl j)] [] := by
                    intro N161
                    induction N161 with
                    | zero => intro j me h161_0 h161_1 h161_2 h161_3 h161_4 hN; exact absurd hN (Nat.not_lt_zero _)
                    | succ N161 ih161 =>
                      intro j me h161_0 h161_1 h161_2 h161_3 h161_4 hN161
                      refine z_iload C dX6_lots_161 4 rfl ?_
                      refine z_bipush C dX6_lots_163 (by decide) ?_
                      refine z_icmp_ge C dX6_lots_165 (tgt := 188) (by decide) (by omega) (by decide) (fun c6 => ?_) (fun c6 => ?_)
                      · refine z_iload_n C dX6_lots_188 3 rfl ?_
                        exact E dX6_lots_189 (by omega) rfl (t_fin (P := zRf) (show tLots s n z = (g, s) by unfold tLots; (first | rw [hgv] | skip); rw [if_neg (by omega), if_neg (by omega), h61_2, show t = n by omega]) (by have hR := zRf_V hs (m := me) (v := v) (lots_q hq (fun x x0 x1 => h161_2 x x0 (by omega)) (fun x y e => h161_3 x y (by omega) (by omega) (by omega) (by omega))) (fun a x e => h161_3 a x (by omega) (by omega) (by omega) (by omega)); rw [← hgv, pV_id] at hR; exact hR) (fun a _ => funext fun x => h161_3 a x (by omega) (by omega) (by omega) (by omega)))
                      · refine z_aload_n C dX6_lots_168 0 rfl ?_
                        refine z_getR C ffX6_38 dX6_lots_169 (by decide) rfl rfl ?_
                        refine z_iload C dX6_lots_172 4 rfl ?_
                        refine z_aload_n C dX6_lots_174 0 rfl ?_
                        refine z_getR C ffX6_86 dX6_lots_175 (by decide) rfl rfl ?_
                        refine z_iload C dX6_lots_178 4 rfl ?_
                        refine z_iald C dX6_lots_180 (by decide) rfl (by omega) (by decide) (fun hr7 => ?_)
                        refine z_iast C dX6_lots_181 (by decide) rfl (by omega) (by decide) (by omega) ?_
                        refine z_mem (fun m8 em8 => ?_)
                        refine z_iinc C dX6_lots_182 4 rfl (by decide) (L' := [(0, _), (1, _), (2, _), (3, _), (4, _)]) rfl ?_
                        refine z_goto C dX6_lots_185 (tgt := 161) (by decide) ?_
                        exact ih161 _ m8 (by omega) (by omega) (fun x x0 x1 => by rw [em8]; exact zs_upto (f := fun x => μ 34 x) h161_2 (by rw [h161_4 j (by omega) (by omega)]) x x0 x1) (fun x y e1 e2 e3 e4 => by rw [em8, zs_ne _ _ _ e1]; exact h161_3 x y e1 e2 e3 e4) (fun x x0 x1 => by rw [em8, zs_ne _ _ _ (by omega)]; exact h161_4 x x0 x1) (by omega)
                  exact LP161 _ 0 mb (by omega) (by omega) (fun x x0 x1 => by omega) h61_5 h61_6 (Nat.lt_succ_self _)
                · refine z_iconst C dX6_lots_67 ?_
                  refine z_istore C dX6_lots_68 (by decide) (L' := [(0, _), (1, _), (2, _), (3, _), (4, _), (5, _)]) rfl ?_
                  have LP70 : ∀ (N70 : Nat) (i : Int) (mc : zM), (0 ≤ i) → (i ≤ vL v + vR v) → (mc 31 24 = (sDa (sLo v z t.toNat).2.2 (sNth v i).toNat ((sLo v z t.toNat).2.1, (sLo v z t.toNat).2.2)).1) → (zQ mc (sDa (sLo v z t.toNat).2.2 (sNth v i).toNat ((sLo v z t.toNat).2.1, (sLo v z t.toNat).2.2)).2) → (∀ x y, ¬ x = 34 → ¬ (38 ≤ x ∧ x ≤ 41) → ¬ x = 44 → ¬ (x = 31 ∧ y = 24) → mc x y = μ x y) → (∀ j, 0 ≤ j → j < 50 → mc 44 j = μ 34 j) → (11 - i).toNat < N70 → zJ X 7 mc 70 [(0, .inr 31), (1, .inl n), (2, .inl z), (3, .inl g), (4, .inl t), (5, .inl i)] [] := by
                    intro N70
                    induction N70 with
                    | zero => intro i mc h70_0 h70_1 h70_2 h70_3 h70_4 h70_5 hN; exact absurd hN (Nat.not_lt_zero _)
                    | succ N70 ih70 =>
                      intro i mc h70_0 h70_1 h70_2 h70_3 h70_4 h70_5 hN70
                      have hDk := sDa_k hX0 (sNth v i).toNat
                      obtain ⟨qc1, qc2, -⟩ := id h70_3
                      have hFb0 := vF_b ho (sNth v i)
                      have hDL : vL (sDa (sLo v z t.toNat).2.2 (sNth v i).toNat ((sLo v z t.toNat).2.1, (sLo v z t.toNat).2.2)).2 = vL v := hDk.1.1.trans hLL
                      have hDR : vR (sDa (sLo v z t.toNat).2.2 (sNth v i).toNat ((sLo v z t.toNat).2.1, (sLo v z t.toNat).2.2)).2 = vR v := hDk.1.2.1.trans hLR
                      refine z_iload C dX6_lots_70 5 rfl ?_
                      refine z_aload_n C dX6_lots_72 0 rfl ?_
                      refine z_getI C ffX6_7 dX6_lots_73 (by decide) rfl rfl 0 rfl (fun hr9 => ?_)
                      rw [show mc 31 0 = vL v by rw [qc1, hDL]]
                      refine z_aload_n C dX6_lots_76 0 rfl ?_
                      refine z_getI C ffX6_13 dX6_lots_77 (by decide) rfl rfl 1 rfl (fun hr10 => ?_)
                      rw [show mc 31 1 = vR v by rw [qc2, hDR]]
                      refine z_iadd C dX6_lots_80 ?_
                      refine z_icmp_ge C dX6_lots_81 (tgt := 136) (by decide) (by omega) (by omega) (fun c11 => ?_) (fun c11 => ?_)
                      · have hend : (sDa (sLo v z t.toNat).2.2 (sNth v i).toNat ((sLo v z t.toNat).2.1, (sLo v z t.toNat).2.2)) = (sDa (sLo v z t.toNat).2.2 10 ((sLo v z t.toNat).2.1, (sLo v z t.toNat).2.2)) := by rw [show i = vL (sLo v z t.toNat).2.2 + vR (sLo v z t.toNat).2.2 by omega, ← hnl, sDa_last hLk.2.1]
                        have hqD := h70_3
                        rw [hend] at hqD
                        have hDD := sDa_k hX0 10
                        have hWD : vW (sDa (sLo v z t.toNat).2.2 10 ((sLo v z t.toNat).2.1, (sLo v z t.toNat).2.2)).2 = vW v := hDD.1.2.2.2.2.1.trans hLk.1.2.2.2.2.1
                        refine z_aload_n C dX6_lots_136 0 rfl ?_
                        refine z_aload_n C dX6_lots_137 0 rfl ?_
                        refine z_getI C ffX6_22 dX6_lots_138 (by decide) rfl rfl 4 rfl (fun hr12 => ?_)
                        rw [show mc 31 4 = vW v by obtain ⟨-, -, -, -, q5, -⟩ := id hqD; rw [q5, hWD]]
                        refine z_callVv C (c_X6_layCounts (zl X) mc (sDa (sLo v z t.toNat).2.2 10 ((sLo v z t.toNat).2.1, (sLo v z t.toNat).2.2)).2 hqD hDD.2.1 (vW v) (by omega)) yyX6_layCounts mlX6_244 (zRc_of (i := 31) C (by decide) rfl rfl) dX6_lots_141 rfl rfl (Nat.le_of_ble_eq_true rfl) (by decide) (fun m13 hp13 => ?_)
                        refine z_iload_n C dX6_lots_144 3 rfl ?_
                        refine z_aload_n C dX6_lots_145 0 rfl ?_
                        refine z_iconst C dX6_lots_146 ?_
                        refine z_callVi C (c_X6_allPairs (zl X) m13 (sDa (sLo v z t.toNat).2.2 10 ((sLo v z t.toNat).2.1, (sLo v z t.toNat).2.2)).2 (zQ_fr hqD (fun x _ _ => by rw [hp13.2 31 (by omega)]) (hp13.2 32 (by omega)) (hp13.2 33 (by omega)) (hp13.2 34 (by omega))) hDD.2.1 (sVl (sDa (sLo v z t.toNat).2.2 10 ((sLo v z t.toNat).2.1, (sLo v z t.toNat).2.2)).2 (vW v)) hp13.1 (sVl_no hDD.2.1 (vW v)) 0 (by omega)) yyX6_allPairs mlX6_247 (zRc_of (i := 31) C (by decide) rfl rfl) dX6_lots_147 rfl rfl (Nat.le_of_ble_eq_true rfl) (by decide) (fun r14 m14 hr14 hp14 => ?_)
                        obtain ⟨rfl, hp14⟩ := hp14
                        have hX : r14 = sPr (sDa (sLo v z t.toNat).2.2 10 ((sLo v z t.toNat).2.1, (sLo v z t.toNat).2.2)).2 (vW v) := by rw [hp14]; exact sAp_p hDD.2.1 (sVl_no hDD.2.1 _)
                        rw [hX]
                        have hXb := sPr_b hDD.2.1 (vW v)
                        refine z_iadd C dX6_lots_150 ?_
                        refine z_istore_n C dX6_lots_151 (by decide) (L' := [(0, _), (1, _), (2, _), (3, _), (4, _), (5, _)]) rfl ?_
                        refine z_iinc C dX6_lots_152 4 rfl (by decide) (L' := [(0, _), (1, _), (2, _), (3, _), (4, _), (5, _)]) rfl ?_
                        refine z_goto C dX6_lots_155 (tgt := 61) (by decide) ?_
                        refine z_sub [0, 1, 2, 3, 4] rfl ?_; exact ih61 _ _ m13 (by omega) (by omega) (by rw [sLo_s v z (by omega), h61_2]) (by rw [sLo_s v z (by omega), hp13.2 31 (by omega), ← hend, h70_2]) (by rw [sLo_s v z (by omega)]; exact (zQ_fr hqD (fun x _ _ => by rw [hp13.2 31 (by omega)]) (hp13.2 32 (by omega)) (hp13.2 33 (by omega)) (hp13.2 34 (by omega)))) (fun x y e1 e2 e3 e4 => by rw [hp13.2 x (by omega)]; exact h70_4 x y e1 e2 e3 e4) (fun x x0 x1 => by rw [hp13.2 44 (by omega)]; exact h70_5 x x0 x1) (by omega)
                      · refine z_iconst C dX6_lots_84 ?_
                        refine z_istore C dX6_lots_85 (by decide) (L' := [(0, _), (1, _), (2, _), (3, _), (4, _), (5, _), (6, _)]) rfl ?_
                        have LP87 : ∀ (N87 : Nat) (o : Int) (md : zM), (0 ≤ o) → (o ≤ vF v (sNth v i)) → (md 31 24 = (sDr (sNth v i) o.toNat (sDa (sLo v z t.toNat).2.2 (sNth v i).toNat ((sLo v z t.toNat).2.1, (sLo v z t.toNat).2.2))).1) → (zQ md (sDr (sNth v i) o.toNat (sDa (sLo v z t.toNat).2.2 (sNth v i).toNat ((sLo v z t.toNat).2.1, (sLo v z t.toNat).2.2))).2) → (∀ x y, ¬ x = 34 → ¬ (38 ≤ x ∧ x ≤ 41) → ¬ x = 44 → ¬ (x = 31 ∧ y = 24) → md x y = μ x y) → (∀ j, 0 ≤ j → j < 50 → md 44 j = μ 34 j) → (6 - o).toNat < N87 → zJ X 7 md 87 [(0, .inr 31), (1, .inl n), (2, .inl z), (3, .inl g), (4, .inl t), (5, .inl i), (6, .inl o)] [] := by
                          intro N87
                          induction N87 with
                          | zero => intro o md h87_0 h87_1 h87_2 h87_3 h87_4 h87_5 hN; exact absurd hN (Nat.not_lt_zero _)
                          | succ N87 ih87 =>
                            intro o md h87_0 h87_1 h87_2 h87_3 h87_4 h87_5 hN87
                            have hnth : vTh v (sNth v i) := by unfold sNth; split <;> omega
                            have hRk := sDr_k (p := sNth v i) ⟨hDk.1, hDk.2.1, hDk.2.2⟩ o.toNat
                            have hRL : vL (sDr (sNth v i) o.toNat (sDa (sLo v z t.toNat).2.2 (sNth v i).toNat ((sLo v z t.toNat).2.1, (sLo v z t.toNat).2.2))).2 = vL v := hRk.1.1.trans hLL
                            have hRR : vR (sDr (sNth v i) o.toNat (sDa (sLo v z t.toNat).2.2 (sNth v i).toNat ((sLo v z t.toNat).2.1, (sLo v z t.toNat).2.2))).2 = vR v := hRk.1.2.1.trans hLR
                            have hRF : vF (sDr (sNth v i) o.toNat (sDa (sLo v z t.toNat).2.2 (sNth v i).toNat ((sLo v z t.toNat).2.1, (sLo v z t.toNat).2.2))).2 (sNth v i) = vF v (sNth v i) := by unfold vF; rw [hRL, hRR]
                            have hRN : sNth (sDr (sNth v i) o.toNat (sDa (sLo v z t.toNat).2.2 (sNth v i).toNat ((sLo v z t.toNat).2.1, (sLo v z t.toNat).2.2))).2 i = sNth v i := (fun (w : zVw) (hw : vL w = vL v) => (by unfold sNth; rw [hw] : sNth w i = sNth v i)) _ hRL
                            have hFb := vF_b ho (sNth v i)
                            refine z_iload C dX6_lots_87 6 rfl ?_
                            refine z_aload_n C dX6_lots_89 0 rfl ?_
                            refine z_aload_n C dX6_lots_90 0 rfl ?_
                            refine z_iload C dX6_lots_91 5 rfl ?_
                            refine z_callVi C (c_X6_nth (zl X) md (sDr (sNth v i) o.toNat (sDa (sLo v z t.toNat).2.2 (sNth v i).toNat ((sLo v z t.toNat).2.1, (sLo v z t.toNat).2.2))).2 h87_3 hRk.2.1 i (by omega)) yyX6_nth mlX6_271 (zRc_of (i := 31) C (by decide) rfl rfl) dX6_lots_93 rfl rfl (Nat.le_of_ble_eq_true rfl) (by decide) (fun r15 m15 hr15 hp15 => ?_)
                            obtain ⟨rfl, hp15⟩ := hp15
                            rw [hp15, hRN]
                            refine z_callVi C (c_X6_others (zl X) md (sDr (sNth v i) o.toNat (sDa (sLo v z t.toNat).2.2 (sNth v i).toNat ((sLo v z t.toNat).2.1, (sLo v z t.toNat).2.2))).2 h87_3 hRk.2.1 (sNth v i) (by omega)) yyX6_others mlX6_206 (zRc_of (i := 31) C (by decide) rfl rfl) dX6_lots_96 rfl rfl (Nat.le_of_ble_eq_true rfl) (by decide) (fun r16 m16 hr16 hp16 => ?_)
                            obtain ⟨rfl, hp16⟩ := hp16
                            rw [hp16, hRF]
                            refine z_icmp_ge C dX6_lots_99 (tgt := 130) (by decide) (by omega) (by omega) (fun c17 => ?_) (fun c17 => ?_)
                            · refine z_iinc C dX6_lots_130 5 rfl (by decide) (L' := [(0, _), (1, _), (2, _), (3, _), (4, _), (5, _), (6, _)]) rfl ?_
                              refine z_goto C dX6_lots_133 (tgt := 70) (by decide) ?_
                              refine z_sub [0, 1, 2, 3, 4, 5] rfl ?_; exact ih70 _ md (by omega) (by omega) (by rw [← hnl (i + 1), sDa_nth hLk.2.1 (by omega), hnl, hfl, ← show o = vF v (sNth v i) by omega]; exact h87_2) (by rw [← hnl (i + 1), sDa_nth hLk.2.1 (by omega), hnl, hfl, ← show o = vF v (sNth v i) by omega]; exact h87_3) h87_4 h87_5 (by omega)
                            · refine z_aload_n C dX6_lots_102 0 rfl ?_
                              refine z_getR C ffX6_38 dX6_lots_103 (by decide) rfl rfl ?_
                              refine z_iconst C dX6_lots_106 ?_
                              refine z_aload_n C dX6_lots_107 0 rfl ?_
                              refine z_iload C dX6_lots_108 5 rfl ?_
                              refine z_callVi C (c_X6_nth (zl X) md (sDr (sNth v i) o.toNat (sDa (sLo v z t.toNat).2.2 (sNth v i).toNat ((sLo v z t.toNat).2.1, (sLo v z t.toNat).2.2))).2 h87_3 hRk.2.1 i (by omega)) yyX6_nth mlX6_271 (zRc_of (i := 31) C (by decide) rfl rfl) dX6_lots_110 rfl rfl (Nat.le_of_ble_eq_true rfl) (by decide) (fun r18 m18 hr18 hp18 => ?_)
                              obtain ⟨rfl, hp18⟩ := hp18
                              rw [hp18, hRN]
                              refine z_imul C dX6_lots_113 ?_
                              refine z_iload C dX6_lots_114 6 rfl ?_
                              refine z_iadd C dX6_lots_116 ?_
                              refine z_aload_n C dX6_lots_117 0 rfl ?_
                              refine z_bipush C dX6_lots_118 (by decide) ?_
                              refine z_callVi C (c_X6_draw (zl X) md (sDr (sNth v i) o.toNat (sDa (sLo v z t.toNat).2.2 (sNth v i).toNat ((sLo v z t.toNat).2.1, (sLo v z t.toNat).2.2))).1 h87_2 hRk.2.2) yyX6_draw mlX6_280 (zRc_of (i := 31) C (by decide) rfl rfl) dX6_lots_120 rfl rfl (Nat.le_of_ble_eq_true rfl) (by decide) (fun r19 m19 hr19 hp19 => ?_)
                              rw [hp19.1]
                              have hvb := sDv_b (sDz (sDr (sNth v i) o.toNat (sDa (sLo v z t.toNat).2.2 (sNth v i).toNat ((sLo v z t.toNat).2.1, (sLo v z t.toNat).2.2))).1)
                              refine z_iast C dX6_lots_123 (by decide) rfl (by omega) (by decide) (by omega) ?_
                              refine z_mem (fun m20 em20 => ?_)
                              have hst1 : m20 31 24 = sDz (sDr (sNth v i) o.toNat (sDa (sLo v z t.toNat).2.2 (sNth v i).toNat ((sLo v z t.toNat).2.1, (sLo v z t.toNat).2.2))).1 := by rw [em20, zs_ne _ _ _ (by omega), hp19.2, zs_self]
                              have hst2 : zQ m20 (vLike (sDr (sNth v i) o.toNat (sDa (sLo v z t.toNat).2.2 (sNth v i).toNat ((sLo v z t.toNat).2.1, (sLo v z t.toNat).2.2))).2 (sNth v i) (sOth (sNth v i) o) (sDv (sDz (sDr (sNth v i) o.toNat (sDa (sLo v z t.toNat).2.2 (sNth v i).toNat ((sLo v z t.toNat).2.1, (sLo v z t.toNat).2.2))).1))) := by
                                have hb := sOth_b (p := sNth v i) (j := o) (by omega) (by omega)
                                have h1 : zQ (zs md 31 24 (sDz (sDr (sNth v i) o.toNat (sDa (sLo v z t.toNat).2.2 (sNth v i).toNat ((sLo v z t.toNat).2.1, (sLo v z t.toNat).2.2))).1)) (sDr (sNth v i) o.toNat (sDa (sLo v z t.toNat).2.2 (sNth v i).toNat ((sLo v z t.toNat).2.1, (sLo v z t.toNat).2.2))).2 := zQ_fr h87_3 (fun x _ _ => zs_ne2 _ _ _ (by omega)) (zs_ne _ _ _ (by omega)) (zs_ne _ _ _ (by omega)) (zs_ne _ _ _ (by omega))
                                have h2 := zQ_like h1 (a := sNth v i) (b := sOth (sNth v i) o) (z := sDv (sDz (sDr (sNth v i) o.toNat (sDa (sLo v z t.toNat).2.2 (sNth v i).toNat ((sLo v z t.toNat).2.1, (sLo v z t.toNat).2.2))).1)) hb.1
                                rw [hb.2.1] at h2
                                rw [em20, hp19.2]
                                exact h2
                              refine z_iinc C dX6_lots_124 6 rfl (by decide) (L' := [(0, _), (1, _), (2, _), (3, _), (4, _), (5, _), (6, _)]) rfl ?_
                              refine z_goto C dX6_lots_127 (tgt := 87) (by decide) ?_
                              exact ih87 _ m20 (by omega) (by omega) (by rw [sDr_s _ (by omega), hst1]) (by rw [sDr_s _ (by omega)]; exact hst2) (fun x y e1 e2 e3 e4 => by rw [em20, zs_ne _ _ _ e1, hp19.2, zs_o _ _ e4]; exact h87_4 x y e1 e2 e3 e4) (fun x x0 x1 => by rw [em20, zs_ne _ _ _ (by omega), hp19.2, zs_ne _ _ _ (by omega)]; exact h87_5 x x0 x1) (by omega)
                        exact LP87 _ 0 mc (by omega) (by omega) h70_2 h70_3 h70_4 h70_5 (Nat.lt_succ_self _)
                  exact LP70 _ 0 mb (by omega) (by omega) (by rw [← hnl, sDa_first hLk.2.1]; exact h61_3) (by rw [← hnl, sDa_first hLk.2.1]; exact h61_4) h61_5 h61_6 (Nat.lt_succ_self _)
            exact LP61 _ 0 0 m4 (by omega) (by omega) rfl (by rw [em4, zs_self]; rfl) (zQ_fr hq (fun x _ _ => by rw [em4, zs_ne2 _ _ _ (by omega), h27_3 31 (by omega)]) (by rw [em4, zs_ne _ _ _ (by omega), h27_3 32 (by omega)]) (by rw [em4, zs_ne _ _ _ (by omega), h27_3 33 (by omega)]) (by rw [em4, zs_ne _ _ _ (by omega), h27_3 34 (by omega)])) (fun x y e1 e2 e3 e4 => by rw [em4, zs_o _ _ e4, h27_3 x e3]) (fun x x0 x1 => by rw [em4, zs_ne _ _ _ (by omega)]; exact h27_2 x x0 (by omega)) (Nat.lt_succ_self _)
          · refine z_aload_n C dX6_lots_33 0 rfl ?_
            refine z_getR C ffX6_86 dX6_lots_34 (by decide) rfl rfl ?_
            refine z_iload_n C dX6_lots_37 3 rfl ?_
            refine z_aload_n C dX6_lots_38 0 rfl ?_
            refine z_getR C ffX6_38 dX6_lots_39 (by decide) rfl rfl ?_
            refine z_iload_n C dX6_lots_42 3 rfl ?_
            refine z_iald C dX6_lots_43 (by decide) rfl (by omega) (by decide) (fun hr21 => ?_)
            refine z_iast C dX6_lots_44 (by decide) rfl (by omega) (by decide) (by omega) ?_
            refine z_mem (fun m22 em22 => ?_)
            refine z_iinc C dX6_lots_45 3 rfl (by decide) (L' := [(0, _), (1, _), (2, _), (3, _)]) rfl ?_
            refine z_goto C dX6_lots_48 (tgt := 27) (by decide) ?_
            exact ih27 _ m22 (by omega) (by omega) (fun x x0 x1 => by rw [em22]; exact zs_upto (f := fun x => μ 34 x) h27_2 (by rw [h27_3 34 (by omega)]) x x0 x1) (fun x e => by rw [em22, zs_ne _ _ _ e]; exact h27_3 x e) (by omega)
      exact LP27 _ 0 μ (by omega) (by omega) (fun x x0 x1 => by omega) (fun _ _ => rfl) (Nat.lt_succ_self _)
    · refine z_aload_n C dX6_lots_18 0 rfl ?_
      refine z_bipush C dX6_lots_19 (by decide) ?_
      refine z_callVi C (c_X6_no (zl X) μ 6 (by omega)) yyX6_no mlX6_128 (zRc_of (i := 31) C (by decide) rfl rfl) dX6_lots_21 rfl rfl (Nat.le_of_ble_eq_true rfl) (by decide) (fun r23 m23 hr23 hp23 => ?_)
      rw [hp23.1]
      exact E dX6_lots_24 (by decide) rfl (t_fin (P := zRf) (show tLots s n z = ((-6), pF s 6) by unfold tLots; (first | rw [hgv] | skip); repeat (first | rw [if_pos (by omega)] | rw [if_neg (by omega)])) (by rw [hp23.2]; exact zRf_F hs (by omega)) (fun a _ => by rw [hp23.2, zs_ne _ _ _ (by omega)]))
  · refine z_aload_n C dX6_lots_5 0 rfl ?_
    refine z_bipush C dX6_lots_6 (by decide) ?_
    refine z_callVi C (c_X6_no (zl X) μ 4 (by omega)) yyX6_no mlX6_128 (zRc_of (i := 31) C (by decide) rfl rfl) dX6_lots_8 rfl rfl (Nat.le_of_ble_eq_true rfl) (by decide) (fun r24 m24 hr24 hp24 => ?_)
    rw [hp24.1]
    exact E dX6_lots_11 (by decide) rfl (t_fin (P := zRf) (show tLots s n z = ((-4), pF s 4) by unfold tLots; (first | rw [hgv] | skip); repeat (first | rw [if_pos (by omega)] | rw [if_neg (by omega)])) (by rw [hp24.2]; exact zRf_F hs (by omega)) (fun a _ => by rw [hp24.2, zs_ne _ _ _ (by omega)]))
set_option maxHeartbeats 4000000 in
theorem c_X6_image (l : Launch) (μ : zM) (s : zS) (hs : zRf μ s) (hso : sOK s) : zMi l yX6_image cX6_image 2 (.int) 0 0 [.inr 31] μ (fun (r : Int) (m : zM) => r = (tImage s).1 ∧ zRf m (tImage s).2 ∧ ∀ a, (a < 31 ∨ 48 ≤ a) → m a = μ a) := by
  refine zMi_of (own := RX6) (by decide +kernel) rfl (Nat.le_of_ble_eq_true rfl) ?_
  intro X hX C hrm E
  subst hX
  show zJ X 2 μ 0 [(0, .inr 31)] []
  obtain ⟨hq, hk, hi, hl, hm, hw, hf⟩ := id hs
  obtain ⟨ho, hok, hoi, hon, hot, hom, how⟩ := id hso
  generalize hgv : gV s = v at hq ho
  obtain ⟨hq1, hq2, hq3, hq4, hq5, hq6, hq7⟩ := id hq
  obtain ⟨ho1, ho2, ho3, ho4, ho5, ho6, ho7⟩ := id ho
  have hN := vN_ok ho
  refine z_aload_n C dX6_image_0 0 rfl ?_
  refine z_iconst C dX6_image_1 ?_
  refine z_putW C ffX6_89 fp6_26 dX6_image_2 (by decide) rfl rfl 26 rfl (by decide) (by decide) (by decide) rfl ?_
  refine z_mem (fun m1 em1 => ?_)
  refine z_aload_n C dX6_image_5 0 rfl ?_
  refine z_aload_n C dX6_image_6 0 rfl ?_
  refine z_getI C ffX6_7 dX6_image_7 (by decide) rfl rfl 0 rfl (fun hr2 => ?_)
  rw [show m1 31 0 = vL v by rw [em1, zs_o _ _ (by omega)]; exact hq1]
  refine z_putI C ffX6_93 fp6_27 dX6_image_10 (by decide) rfl rfl 27 rfl (by omega) ?_
  refine z_mem (fun m3 em3 => ?_)
  refine z_aload_n C dX6_image_13 0 rfl ?_
  refine z_aload_n C dX6_image_14 0 rfl ?_
  refine z_getI C ffX6_13 dX6_image_15 (by decide) rfl rfl 1 rfl (fun hr4 => ?_)
  rw [show m3 31 1 = vR v by rw [em3, zs_o _ _ (by omega), em1, zs_o _ _ (by omega)]; exact hq2]
  refine z_putI C ffX6_96 fp6_28 dX6_image_18 (by decide) rfl rfl 28 rfl (by omega) ?_
  refine z_mem (fun m5 em5 => ?_)
  refine z_aload_n C dX6_image_21 0 rfl ?_
  refine z_aload_n C dX6_image_22 0 rfl ?_
  refine z_getI C ffX6_16 dX6_image_23 (by decide) rfl rfl 2 rfl (fun hr6 => ?_)
  rw [show m5 31 2 = vS v by rw [em5, zs_o _ _ (by omega), em3, zs_o _ _ (by omega), em1, zs_o _ _ (by omega)]; exact hq3]
  refine z_putI C ffX6_99 fp6_29 dX6_image_26 (by decide) rfl rfl 29 rfl (by omega) ?_
  refine z_mem (fun m7 em7 => ?_)
  refine z_aload_n C dX6_image_29 0 rfl ?_
  refine z_aload_n C dX6_image_30 0 rfl ?_
  refine z_getI C ffX6_19 dX6_image_31 (by decide) rfl rfl 3 rfl (fun hr8 => ?_)
  rw [show m7 31 3 = vH v by rw [em7, zs_o _ _ (by omega), em5, zs_o _ _ (by omega), em3, zs_o _ _ (by omega), em1, zs_o _ _ (by omega)]; exact hq4]
  refine z_putI C ffX6_102 fp6_30 dX6_image_34 (by decide) rfl rfl 30 rfl (by omega) ?_
  refine z_mem (fun m9 em9 => ?_)
  refine z_aload_n C dX6_image_37 0 rfl ?_
  refine z_aload_n C dX6_image_38 0 rfl ?_
  refine z_getI C ffX6_22 dX6_image_39 (by decide) rfl rfl 4 rfl (fun hr10 => ?_)
  rw [show m9 31 4 = vW v by rw [em9, zs_o _ _ (by omega), em7, zs_o _ _ (by omega), em5, zs_o _ _ (by omega), em3, zs_o _ _ (by omega), em1, zs_o _ _ (by omega)]; exact hq5]
  refine z_putI C ffX6_105 fp6_31 dX6_image_42 (by decide) rfl rfl 31 rfl (by omega) ?_
  refine z_mem (fun m11 em11 => ?_)
  have hI1 : m11 31 26 = 1 ∧ m11 31 27 = vL v ∧ m11 31 28 = vR v ∧ m11 31 29 = vS v ∧ m11 31 30 = vH v ∧ m11 31 31 = vW v := by
    rw [em11, em9, em7, em5, em3, em1]
    exact ⟨by simp [zs], by simp [zs], by simp [zs], by simp [zs], by simp [zs], by simp [zs]⟩
  have hI2 : ∀ x y, ¬ (x = 31 ∧ 26 ≤ y) → m11 x y = μ x y := fun x y e => by rw [em11, zs_o _ _ (by omega), em9, zs_o _ _ (by omega), em7, zs_o _ _ (by omega), em5, zs_o _ _ (by omega), em3, zs_o _ _ (by omega), em1, zs_o _ _ (by omega)]
  refine z_iconst C dX6_image_45 ?_
  refine z_istore_n C dX6_image_46 (by decide) (L' := [(0, _), (1, _)]) rfl ?_
  have LP47 : ∀ (N47 : Nat) (j : Int) (ma : zM), (0 ≤ j) → (j ≤ 10) → (∀ x, 0 ≤ x → x < j → ma 45 x = μ 32 x ∧ ma 46 x = μ 33 x) → (∀ x, ¬ x = 45 → ¬ x = 46 → ma x = m11 x) → (11 - j).toNat < N47 → zJ X 2 ma 47 [(0, .inr 31), (1, .inl j)] [] := by
    intro N47
    induction N47 with
    | zero => intro j ma h47_0 h47_1 h47_2 h47_3 hN; exact absurd hN (Nat.not_lt_zero _)
    | succ N47 ih47 =>
      intro j ma h47_0 h47_1 h47_2 h47_3 hN47
      refine z_iload_n C dX6_image_47 1 rfl ?_
      refine z_bipush C dX6_image_48 (by decide) ?_
      refine z_icmp_ge C dX6_image_50 (tgt := 83) (by decide) (by omega) (by decide) (fun c12 => ?_) (fun c12 => ?_)
      · refine z_iconst C dX6_image_83 ?_
        refine z_istore_n C dX6_image_84 (by decide) (L' := [(0, _), (1, _)]) rfl ?_
        have LP85 : ∀ (N85 : Nat) (j : Int) (mb : zM), (0 ≤ j) → (j ≤ 50) → (∀ x, 0 ≤ x → x < j → mb 47 x = μ 34 x) → (∀ x y, ¬ (45 ≤ x ∧ x ≤ 47) → True → mb x y = m11 x y) → (∀ x, x = 45 ∨ x = 46 → mb x = ma x) → (51 - j).toNat < N85 → zJ X 2 mb 85 [(0, .inr 31), (1, .inl j)] [] := by
          intro N85
          induction N85 with
          | zero => intro j mb h85_0 h85_1 h85_2 h85_3 h85_4 hN; exact absurd hN (Nat.not_lt_zero _)
          | succ N85 ih85 =>
            intro j mb h85_0 h85_1 h85_2 h85_3 h85_4 hN85
            refine z_iload_n C dX6_image_85 1 rfl ?_
            refine z_bipush C dX6_image_86 (by decide) ?_
            refine z_icmp_ge C dX6_image_88 (tgt := 109) (by decide) (by omega) (by decide) (fun c13 => ?_) (fun c13 => ?_)
            · refine z_aload_n C dX6_image_109 0 rfl ?_
              refine z_getI C ffX6_7 dX6_image_110 (by decide) rfl rfl 0 rfl (fun hr14 => ?_)
              rw [show mb 31 0 = vL v by rw [h85_3 31 0 (by omega) trivial, hI2 31 0 (by omega)]; exact hq1]
              refine z_aload_n C dX6_image_113 0 rfl ?_
              refine z_getI C ffX6_13 dX6_image_114 (by decide) rfl rfl 1 rfl (fun hr15 => ?_)
              rw [show mb 31 1 = vR v by rw [h85_3 31 1 (by omega) trivial, hI2 31 1 (by omega)]; exact hq2]
              refine z_iadd C dX6_image_117 ?_
              exact E dX6_image_118 (by omega) rfl (t_fin (P := zRf) (show tImage s = (vL v + vR v, pI s v) by unfold tImage; (first | rw [hgv] | skip); repeat (first | rw [if_pos (by omega)] | rw [if_neg (by omega)])) (zRf_I hs (im_q hq (fun x x0 => by rw [h85_3 31 x (by omega) trivial]) hI1 (fun x x0 x1 => ⟨by rw [h85_4 45 (by omega)]; exact (h47_2 x x0 (by omega)).1, by rw [h85_4 46 (by omega)]; exact (h47_2 x x0 (by omega)).2⟩) (fun x x0 x1 => h85_2 x x0 (by omega))) (by rw [h85_3 31 26 (by omega) trivial]; exact hI1.1) (fun a x e => by rw [h85_3 a x (by omega) trivial, hI2 a x (by omega)])) (fun a _ => funext fun x => by rw [h85_3 a x (by omega) trivial, hI2 a x (by omega)]))
            · refine z_aload_n C dX6_image_91 0 rfl ?_
              refine z_getR C ffX6_114 dX6_image_92 (by decide) rfl rfl ?_
              refine z_iload_n C dX6_image_95 1 rfl ?_
              refine z_aload_n C dX6_image_96 0 rfl ?_
              refine z_getR C ffX6_38 dX6_image_97 (by decide) rfl rfl ?_
              refine z_iload_n C dX6_image_100 1 rfl ?_
              refine z_iald C dX6_image_101 (by decide) rfl (by omega) (by decide) (fun hr16 => ?_)
              refine z_iast C dX6_image_102 (by decide) rfl (by omega) (by decide) (by omega) ?_
              refine z_mem (fun m17 em17 => ?_)
              refine z_iinc C dX6_image_103 1 rfl (by decide) (L' := [(0, _), (1, _)]) rfl ?_
              refine z_goto C dX6_image_106 (tgt := 85) (by decide) ?_
              exact ih85 _ m17 (by omega) (by omega) (fun x x0 x1 => by rw [em17]; exact zs_upto (f := fun x => μ 34 x) h85_2 (by rw [h85_3 34 _ (by omega) trivial, hI2 34 _ (by omega)]) x x0 x1) (fun x y e _ => by rw [em17, zs_ne _ _ _ (by omega)]; exact h85_3 x y e trivial) (fun x e => by rw [em17, zs_ne _ _ _ (by omega)]; exact h85_4 x e) (by omega)
        exact LP85 _ 0 ma (by omega) (by omega) (fun x x0 x1 => by omega) (fun x y e _ => by rw [h47_3 x (by omega) (by omega)]) (fun _ _ => rfl) (Nat.lt_succ_self _)
      · refine z_aload_n C dX6_image_53 0 rfl ?_
        refine z_getR C ffX6_108 dX6_image_54 (by decide) rfl rfl ?_
        refine z_iload_n C dX6_image_57 1 rfl ?_
        refine z_aload_n C dX6_image_58 0 rfl ?_
        refine z_getR C ffX6_31 dX6_image_59 (by decide) rfl rfl ?_
        refine z_iload_n C dX6_image_62 1 rfl ?_
        refine z_iald C dX6_image_63 (by decide) rfl (by omega) (by decide) (fun hr18 => ?_)
        refine z_iast C dX6_image_64 (by decide) rfl (by omega) (by decide) (by omega) ?_
        refine z_mem (fun m19 em19 => ?_)
        refine z_aload_n C dX6_image_65 0 rfl ?_
        refine z_getR C ffX6_111 dX6_image_66 (by decide) rfl rfl ?_
        refine z_iload_n C dX6_image_69 1 rfl ?_
        refine z_aload_n C dX6_image_70 0 rfl ?_
        refine z_getR C ffX6_35 dX6_image_71 (by decide) rfl rfl ?_
        refine z_iload_n C dX6_image_74 1 rfl ?_
        refine z_iald C dX6_image_75 (by decide) rfl (by omega) (by decide) (fun hr20 => ?_)
        refine z_iast C dX6_image_76 (by decide) rfl (by omega) (by decide) (by omega) ?_
        refine z_mem (fun m21 em21 => ?_)
        refine z_iinc C dX6_image_77 1 rfl (by decide) (L' := [(0, _), (1, _)]) rfl ?_
        refine z_goto C dX6_image_80 (tgt := 47) (by decide) ?_
        exact ih47 _ m21 (by omega) (by omega) (fun x x0 x1 => ⟨(by rw [em21, zs_ne _ _ _ (by omega), em19]; exact zs_upto (f := fun x => μ 32 x) (fun y y0 y1 => (h47_2 y y0 y1).1) (by rw [h47_3 32 (by omega) (by omega), hI2 32 _ (by omega)]) x x0 x1), (by rw [em21]; exact zs_upto (f := fun x => μ 33 x) (fun y y0 y1 => by rw [em19, zs_ne _ _ _ (by omega)]; exact (h47_2 y y0 y1).2) (by rw [em19, zs_ne _ _ _ (by omega), h47_3 33 (by omega) (by omega), hI2 33 _ (by omega)]) x x0 x1)⟩) (fun x y z => by rw [em21, zs_ne _ _ _ z, em19, zs_ne _ _ _ y]; exact h47_3 x y z) (by omega)
  exact LP47 _ 0 m11 (by omega) (by omega) (fun x x0 x1 => by omega) (fun _ _ _ => rfl) (Nat.lt_succ_self _)
set_option maxHeartbeats 4000000 in
theorem c_X6_on (l : Launch) (μ : zM) (s : zS) (hs : zRf μ s) (hso : sOK s) : zMi l yX6_on cX6_on 2 (.int) 1 21 [.inr 31] μ (fun (r : Int) (m : zM) => r = (tOn s).1 ∧ zRf m (tOn s).2 ∧ ∀ a, (a < 31 ∨ 48 ≤ a) → m a = μ a) := by
  refine zMi_of (own := RX6) (by decide +kernel) rfl (Nat.le_of_ble_eq_true rfl) ?_
  intro X hX C hrm E
  subst hX
  show zJ X 2 μ 0 [(0, .inr 31)] []
  obtain ⟨hq, hk, hi, hl, hm, hw, hf⟩ := id hs
  obtain ⟨ho, hok, hoi, hon, hot, hom, how⟩ := id hso
  generalize hgv : gV s = v at hq ho
  obtain ⟨hq1, hq2, hq3, hq4, hq5, hq6, hq7⟩ := id hq
  obtain ⟨ho1, ho2, ho3, ho4, ho5, ho6, ho7⟩ := id ho
  have hN := vN_ok ho
  obtain ⟨hi1, hi2, hi3, hi4, hi5, hi6, hi7⟩ := id hi
  have hib : 0 ≤ vL (gI s) ∧ vL (gI s) ≤ 5 ∧ 0 ≤ vR (gI s) ∧ vR (gI s) ≤ 5 := ⟨hoi.1.1, hoi.1.2, hoi.2.1.1, hoi.2.1.2⟩
  have hib2 := hoi.2.2.1
  have hib3 := hoi.2.2.2.1
  have hib4 := hoi.2.2.2.2.1
  refine z_aload_n C dX6_on_0 0 rfl ?_
  refine z_getI C ffX6_89 dX6_on_1 (by decide) rfl rfl 26 rfl (fun hr1 => ?_)
  rw [hk]
  refine z_if_ne C dX6_on_4 (tgt := 14) (by decide) (by omega) (fun c2 => ?_) (fun c2 => ?_)
  · refine z_aload_n C dX6_on_14 0 rfl ?_
    refine z_aload_n C dX6_on_15 0 rfl ?_
    refine z_getI C ffX6_93 dX6_on_16 (by decide) rfl rfl 27 rfl (fun hr3 => ?_)
    rw [hi1]
    refine z_putI C ffX6_7 fp6_0 dX6_on_19 (by decide) rfl rfl 0 rfl (by omega) ?_
    refine z_mem (fun m4 em4 => ?_)
    refine z_aload_n C dX6_on_22 0 rfl ?_
    refine z_aload_n C dX6_on_23 0 rfl ?_
    refine z_getI C ffX6_96 dX6_on_24 (by decide) rfl rfl 28 rfl (fun hr5 => ?_)
    rw [show m4 31 28 = vR (gI s) by rw [em4, zs_o _ _ (by omega)]; exact hi2]
    refine z_putI C ffX6_13 fp6_1 dX6_on_27 (by decide) rfl rfl 1 rfl (by omega) ?_
    refine z_mem (fun m6 em6 => ?_)
    refine z_aload_n C dX6_on_30 0 rfl ?_
    refine z_aload_n C dX6_on_31 0 rfl ?_
    refine z_getI C ffX6_99 dX6_on_32 (by decide) rfl rfl 29 rfl (fun hr7 => ?_)
    rw [show m6 31 29 = vS (gI s) by rw [em6, zs_o _ _ (by omega), em4, zs_o _ _ (by omega)]; exact hi3]
    refine z_putI C ffX6_16 fp6_2 dX6_on_35 (by decide) rfl rfl 2 rfl (by omega) ?_
    refine z_mem (fun m8 em8 => ?_)
    refine z_aload_n C dX6_on_38 0 rfl ?_
    refine z_aload_n C dX6_on_39 0 rfl ?_
    refine z_getI C ffX6_102 dX6_on_40 (by decide) rfl rfl 30 rfl (fun hr9 => ?_)
    rw [show m8 31 30 = vH (gI s) by rw [em8, zs_o _ _ (by omega), em6, zs_o _ _ (by omega), em4, zs_o _ _ (by omega)]; exact hi4]
    refine z_putI C ffX6_19 fp6_3 dX6_on_43 (by decide) rfl rfl 3 rfl (by omega) ?_
    refine z_mem (fun m10 em10 => ?_)
    refine z_aload_n C dX6_on_46 0 rfl ?_
    refine z_aload_n C dX6_on_47 0 rfl ?_
    refine z_getI C ffX6_105 dX6_on_48 (by decide) rfl rfl 31 rfl (fun hr11 => ?_)
    rw [show m10 31 31 = vW (gI s) by rw [em10, zs_o _ _ (by omega), em8, zs_o _ _ (by omega), em6, zs_o _ _ (by omega), em4, zs_o _ _ (by omega)]; exact hi5]
    refine z_putI C ffX6_22 fp6_4 dX6_on_51 (by decide) rfl rfl 4 rfl (by omega) ?_
    refine z_mem (fun m12 em12 => ?_)
    have hI1 : m12 31 0 = vL (gI s) ∧ m12 31 1 = vR (gI s) ∧ m12 31 2 = vS (gI s) ∧ m12 31 3 = vH (gI s) ∧ m12 31 4 = vW (gI s) := by
      rw [em12, em10, em8, em6, em4]
      exact ⟨by simp [zs], by simp [zs], by simp [zs], by simp [zs], by simp [zs]⟩
    have hI2 : ∀ x y, ¬ (x = 31 ∧ 0 ≤ y ∧ y ≤ 4) → m12 x y = μ x y := fun x y e => by rw [em12, zs_o _ _ (by omega), em10, zs_o _ _ (by omega), em8, zs_o _ _ (by omega), em6, zs_o _ _ (by omega), em4, zs_o _ _ (by omega)]
    refine z_iconst C dX6_on_54 ?_
    refine z_istore_n C dX6_on_55 (by decide) (L' := [(0, _), (1, _)]) rfl ?_
    have LP56 : ∀ (N56 : Nat) (j : Int) (ma : zM), (0 ≤ j) → (j ≤ 10) → (∀ x, 0 ≤ x → x < j → ma 32 x = μ 45 x ∧ ma 33 x = μ 46 x) → (∀ x, ¬ x = 32 → ¬ x = 33 → ma x = m12 x) → (11 - j).toNat < N56 → zJ X 2 ma 56 [(0, .inr 31), (1, .inl j)] [] := by
      intro N56
      induction N56 with
      | zero => intro j ma h56_0 h56_1 h56_2 h56_3 hN; exact absurd hN (Nat.not_lt_zero _)
      | succ N56 ih56 =>
        intro j ma h56_0 h56_1 h56_2 h56_3 hN56
        refine z_iload_n C dX6_on_56 1 rfl ?_
        refine z_bipush C dX6_on_57 (by decide) ?_
        refine z_icmp_ge C dX6_on_59 (tgt := 92) (by decide) (by omega) (by decide) (fun c13 => ?_) (fun c13 => ?_)
        · refine z_iconst C dX6_on_92 ?_
          refine z_istore_n C dX6_on_93 (by decide) (L' := [(0, _), (1, _)]) rfl ?_
          have LP94 : ∀ (N94 : Nat) (j : Int) (mb : zM), (0 ≤ j) → (j ≤ 50) → (∀ x, 0 ≤ x → x < j → mb 34 x = μ 47 x) → (∀ x y, ¬ (32 ≤ x ∧ x ≤ 34) → True → mb x y = m12 x y) → (∀ x, x = 32 ∨ x = 33 → mb x = ma x) → (51 - j).toNat < N94 → zJ X 2 mb 94 [(0, .inr 31), (1, .inl j)] [] := by
            intro N94
            induction N94 with
            | zero => intro j mb h94_0 h94_1 h94_2 h94_3 h94_4 hN; exact absurd hN (Nat.not_lt_zero _)
            | succ N94 ih94 =>
              intro j mb h94_0 h94_1 h94_2 h94_3 h94_4 hN94
              refine z_iload_n C dX6_on_94 1 rfl ?_
              refine z_bipush C dX6_on_95 (by decide) ?_
              refine z_icmp_ge C dX6_on_97 (tgt := 118) (by decide) (by omega) (by decide) (fun c14 => ?_) (fun c14 => ?_)
              · refine z_aload_n C dX6_on_118 0 rfl ?_
                refine z_getI C ffX6_7 dX6_on_119 (by decide) rfl rfl 0 rfl (fun hr15 => ?_)
                rw [show mb 31 0 = vL (gI s) by rw [h94_3 31 0 (by omega) trivial]; exact hI1.1]
                refine z_aload_n C dX6_on_122 0 rfl ?_
                refine z_getI C ffX6_13 dX6_on_123 (by decide) rfl rfl 1 rfl (fun hr16 => ?_)
                rw [show mb 31 1 = vR (gI s) by rw [h94_3 31 1 (by omega) trivial]; exact hI1.2.1]
                refine z_iadd C dX6_on_126 ?_
                exact E dX6_on_127 (by omega) rfl (t_fin (P := zRf) (show tOn s = (vL (gI s) + vR (gI s), pV s (gI s)) by unfold tOn; (first | rw [hgv] | skip); repeat (first | rw [if_pos (by omega)] | rw [if_neg (by omega)])) (zRf_V hs (on_q hi (fun x x0 => by rw [h94_3 31 x (by omega) trivial]) hI1 (fun x x0 x1 => ⟨by rw [h94_4 32 (by omega)]; exact (h56_2 x x0 (by omega)).1, by rw [h94_4 33 (by omega)]; exact (h56_2 x x0 (by omega)).2⟩) (fun x x0 x1 => h94_2 x x0 (by omega))) (fun a x e => by rw [h94_3 a x (by omega) trivial, hI2 a x (by omega)])) (fun a _ => funext fun x => by rw [h94_3 a x (by omega) trivial, hI2 a x (by omega)]))
              · refine z_aload_n C dX6_on_100 0 rfl ?_
                refine z_getR C ffX6_38 dX6_on_101 (by decide) rfl rfl ?_
                refine z_iload_n C dX6_on_104 1 rfl ?_
                refine z_aload_n C dX6_on_105 0 rfl ?_
                refine z_getR C ffX6_114 dX6_on_106 (by decide) rfl rfl ?_
                refine z_iload_n C dX6_on_109 1 rfl ?_
                refine z_iald C dX6_on_110 (by decide) rfl (by omega) (by decide) (fun hr17 => ?_)
                refine z_iast C dX6_on_111 (by decide) rfl (by omega) (by decide) (by omega) ?_
                refine z_mem (fun m18 em18 => ?_)
                refine z_iinc C dX6_on_112 1 rfl (by decide) (L' := [(0, _), (1, _)]) rfl ?_
                refine z_goto C dX6_on_115 (tgt := 94) (by decide) ?_
                exact ih94 _ m18 (by omega) (by omega) (fun x x0 x1 => by rw [em18]; exact zs_upto (f := fun x => μ 47 x) h94_2 (by rw [h94_3 47 _ (by omega) trivial, hI2 47 _ (by omega)]) x x0 x1) (fun x y e _ => by rw [em18, zs_ne _ _ _ (by omega)]; exact h94_3 x y e trivial) (fun x e => by rw [em18, zs_ne _ _ _ (by omega)]; exact h94_4 x e) (by omega)
          exact LP94 _ 0 ma (by omega) (by omega) (fun x x0 x1 => by omega) (fun x y e _ => by rw [h56_3 x (by omega) (by omega)]) (fun _ _ => rfl) (Nat.lt_succ_self _)
        · refine z_aload_n C dX6_on_62 0 rfl ?_
          refine z_getR C ffX6_31 dX6_on_63 (by decide) rfl rfl ?_
          refine z_iload_n C dX6_on_66 1 rfl ?_
          refine z_aload_n C dX6_on_67 0 rfl ?_
          refine z_getR C ffX6_108 dX6_on_68 (by decide) rfl rfl ?_
          refine z_iload_n C dX6_on_71 1 rfl ?_
          refine z_iald C dX6_on_72 (by decide) rfl (by omega) (by decide) (fun hr19 => ?_)
          refine z_iast C dX6_on_73 (by decide) rfl (by omega) (by decide) (by omega) ?_
          refine z_mem (fun m20 em20 => ?_)
          refine z_aload_n C dX6_on_74 0 rfl ?_
          refine z_getR C ffX6_35 dX6_on_75 (by decide) rfl rfl ?_
          refine z_iload_n C dX6_on_78 1 rfl ?_
          refine z_aload_n C dX6_on_79 0 rfl ?_
          refine z_getR C ffX6_111 dX6_on_80 (by decide) rfl rfl ?_
          refine z_iload_n C dX6_on_83 1 rfl ?_
          refine z_iald C dX6_on_84 (by decide) rfl (by omega) (by decide) (fun hr21 => ?_)
          refine z_iast C dX6_on_85 (by decide) rfl (by omega) (by decide) (by omega) ?_
          refine z_mem (fun m22 em22 => ?_)
          refine z_iinc C dX6_on_86 1 rfl (by decide) (L' := [(0, _), (1, _)]) rfl ?_
          refine z_goto C dX6_on_89 (tgt := 56) (by decide) ?_
          exact ih56 _ m22 (by omega) (by omega) (fun x x0 x1 => ⟨(by rw [em22, zs_ne _ _ _ (by omega), em20]; exact zs_upto (f := fun x => μ 45 x) (fun y y0 y1 => (h56_2 y y0 y1).1) (by rw [h56_3 45 (by omega) (by omega), hI2 45 _ (by omega)]) x x0 x1), (by rw [em22]; exact zs_upto (f := fun x => μ 46 x) (fun y y0 y1 => by rw [em20, zs_ne _ _ _ (by omega)]; exact (h56_2 y y0 y1).2) (by rw [em20, zs_ne _ _ _ (by omega), h56_3 46 (by omega) (by omega), hI2 46 _ (by omega)]) x x0 x1)⟩) (fun x y z => by rw [em22, zs_ne _ _ _ z, em20, zs_ne _ _ _ y]; exact h56_3 x y z) (by omega)
    exact LP56 _ 0 m12 (by omega) (by omega) (fun x x0 x1 => by omega) (fun _ _ _ => rfl) (Nat.lt_succ_self _)
  · refine z_aload_n C dX6_on_7 0 rfl ?_
    refine z_bipush C dX6_on_8 (by decide) ?_
    refine z_callVi C (c_X6_no (zl X) μ 3 (by omega)) yyX6_no mlX6_128 (zRc_of (i := 31) C (by decide) rfl rfl) dX6_on_10 rfl rfl (Nat.le_of_ble_eq_true rfl) (by decide) (fun r23 m23 hr23 hp23 => ?_)
    rw [hp23.1]
    exact E dX6_on_13 (by decide) rfl (t_fin (P := zRf) (show tOn s = ((-3), pF s 3) by unfold tOn; (first | rw [hgv] | skip); repeat (first | rw [if_pos (by omega)] | rw [if_neg (by omega)])) (by rw [hp23.2]; exact zRf_F hs (by omega)) (fun a _ => by rw [hp23.2, zs_ne _ _ _ (by omega)]))
set_option maxHeartbeats 4000000 in
theorem c_X6_allGaps (l : Launch) (μ : zM) (v : zVw) (hq : zQ μ v) (ho : vOK v) : zMi l yX6_allGaps cX6_allGaps 3 (.int) 3 67 [.inr 31] μ (fun (r : Int) (m : zM) => μ = m ∧ r = sGaN v 10) := by
  refine zMi_of (own := RX6) (by decide +kernel) rfl (Nat.le_of_ble_eq_true rfl) ?_
  intro X hX C hrm E
  subst hX
  show zJ X 3 μ 0 [(0, .inr 31)] []
  obtain ⟨hq1, hq2, hq3, hq4, hq5, hq6, hq7⟩ := id hq
  obtain ⟨ho1, ho2, ho3, ho4, ho5, ho6, ho7⟩ := id ho
  have hN := vN_ok ho
  refine z_iconst C dX6_allGaps_0 ?_
  refine z_istore_n C dX6_allGaps_1 (by decide) (L' := [(0, _), (1, _)]) rfl ?_
  refine z_iconst C dX6_allGaps_2 ?_
  refine z_istore_n C dX6_allGaps_3 (by decide) (L' := [(0, _), (1, _), (2, _)]) rfl ?_
  have LP4 : ∀ (N4 : Nat) (y : Int) (p : Int), (0 ≤ p) → (p ≤ 10) → (y = sGaN v p.toNat) → (11 - p).toNat < N4 → zJ X 3 μ 4 [(0, .inr 31), (1, .inl y), (2, .inl p)] [] := by
    intro N4
    induction N4 with
    | zero => intro y p h4_0 h4_1 h4_2 hN; exact absurd hN (Nat.not_lt_zero _)
    | succ N4 ih4 =>
      intro y p h4_0 h4_1 h4_2 hN4
      have hgb := sGaN_b ho p.toNat
      refine z_iload_n C dX6_allGaps_4 2 rfl ?_
      refine z_bipush C dX6_allGaps_5 (by decide) ?_
      refine z_icmp_ge C dX6_allGaps_7 (tgt := 36) (by decide) (by omega) (by decide) (fun c1 => ?_) (fun c1 => ?_)
      · refine z_iload_n C dX6_allGaps_36 1 rfl ?_
        exact E dX6_allGaps_37 (by omega) rfl ⟨rfl, (by rw [h4_2, show p.toNat = 10 by omega])⟩
      · refine z_iload_n C dX6_allGaps_10 1 rfl ?_
        refine z_aload_n C dX6_allGaps_11 0 rfl ?_
        refine z_iload_n C dX6_allGaps_12 2 rfl ?_
        refine z_callVi C (c_X6_isPerson (zl X) μ v hq ho p (by omega)) yyX6_isPerson mlX6_124 (zRc_of (i := 31) C (by decide) rfl rfl) dX6_allGaps_13 rfl rfl (Nat.le_of_ble_eq_true rfl) (by decide) (fun r2 m2 hr2 hp2 => ?_)
        obtain ⟨rfl, hp2⟩ := hp2
        rcases hp2 with ⟨rfl, hp2⟩ | ⟨rfl, hp2⟩
        · refine z_if_eq C dX6_allGaps_16 (tgt := 27) (by decide) (by decide) (fun c3 => (by exfalso; omega)) (fun _ => ?_)
          refine z_aload_n C dX6_allGaps_19 0 rfl ?_
          refine z_iload_n C dX6_allGaps_20 2 rfl ?_
          refine z_callVi C (c_X6_gapsOf (zl X) μ v hq ho p (by omega)) yyX6_gapsOf mlX6_213 (zRc_of (i := 31) C (by decide) rfl rfl) dX6_allGaps_21 rfl rfl (Nat.le_of_ble_eq_true rfl) (by decide) (fun r4 m4 hr4 hp4 => ?_)
          obtain ⟨rfl, hp4⟩ := hp4
          rw [hp4]
          have hgp := sGap_b ho p
          refine z_goto C dX6_allGaps_24 (tgt := 28) (by decide) ?_
          refine z_iadd C dX6_allGaps_28 ?_
          refine z_istore_n C dX6_allGaps_29 (by decide) (L' := [(0, _), (1, _), (2, _)]) rfl ?_
          refine z_iinc C dX6_allGaps_30 2 rfl (by decide) (L' := [(0, _), (1, _), (2, _)]) rfl ?_
          refine z_goto C dX6_allGaps_33 (tgt := 4) (by decide) ?_
          exact ih4 _ _ (by omega) (by omega) (by rw [sGaN_s v (by omega), ← h4_2, if_pos (by omega)]) (by omega)
        · refine z_if_eq C dX6_allGaps_16 (tgt := 27) (by decide) (by decide) (fun _ => ?_) (fun c5 => (by exfalso; omega))
          refine z_iconst C dX6_allGaps_27 ?_
          refine z_iadd C dX6_allGaps_28 ?_
          refine z_istore_n C dX6_allGaps_29 (by decide) (L' := [(0, _), (1, _), (2, _)]) rfl ?_
          refine z_iinc C dX6_allGaps_30 2 rfl (by decide) (L' := [(0, _), (1, _), (2, _)]) rfl ?_
          refine z_goto C dX6_allGaps_33 (tgt := 4) (by decide) ?_
          exact ih4 _ _ (by omega) (by omega) (by rw [sGaN_s v (by omega), ← h4_2, if_neg (by omega)]) (by omega)
  exact LP4 _ 0 0 (by omega) (by omega) rfl (Nat.lt_succ_self _)
set_option maxHeartbeats 4000000 in
theorem c_X6_count (l : Launch) (μ : zM) (s : zS) (hs : zRf μ s) (hso : sOK s) (w : Int) (hwr : zR w) : zMi l yX6_count cX6_count 2 (.int) 4 89 [.inr 31, .inl w] μ (fun (r : Int) (m : zM) => r = (tCount s w).1 ∧ zRf m (tCount s w).2 ∧ ∀ a, (a < 31 ∨ 48 ≤ a) → m a = μ a) := by
  refine zMi_of (own := RX6) (by decide +kernel) rfl (Nat.le_of_ble_eq_true rfl) ?_
  intro X hX C hrm E
  subst hX
  show zJ X 2 μ 0 [(0, .inr 31), (1, .inl w)] []
  obtain ⟨hq, hk, hi, hl, hm, hw, hf⟩ := id hs
  obtain ⟨ho, hok, hoi, hon, hot, hom, how⟩ := id hso
  generalize hgv : gV s = v at hq ho
  obtain ⟨hq1, hq2, hq3, hq4, hq5, hq6, hq7⟩ := id hq
  obtain ⟨ho1, ho2, ho3, ho4, ho5, ho6, ho7⟩ := id ho
  have hN := vN_ok ho
  obtain ⟨x1, x2, x3⟩ := id hl
  refine z_aload_n C dX6_count_0 0 rfl ?_
  refine z_iload_n C dX6_count_1 1 rfl ?_
  refine z_bipush C dX6_count_2 (by decide) ?_
  refine z_bipush C dX6_count_4 (by decide) ?_
  refine z_callVi C (c_X6_in (zl X) μ w 11 16 (by omega) (by omega) (by omega)) yyX6_in mlX6_117 (zRc_of (i := 31) C (by decide) rfl rfl) dX6_count_6 rfl rfl (Nat.le_of_ble_eq_true rfl) (by decide) (fun r1 m1 hr1 hp1 => ?_)
  obtain ⟨rfl, hp1⟩ := hp1
  rcases hp1 with ⟨rfl, hp1⟩ | ⟨rfl, hp1⟩
  · refine z_if_eq C dX6_count_9 (tgt := 22) (by decide) (by decide) (fun c2 => (by exfalso; omega)) (fun _ => ?_)
    refine z_aload_n C dX6_count_12 0 rfl ?_
    refine z_getR C ffX6_47 dX6_count_13 (by decide) rfl rfl ?_
    refine z_iload_n C dX6_count_16 1 rfl ?_
    refine z_bipush C dX6_count_17 (by decide) ?_
    refine z_isub C dX6_count_19 ?_
    refine z_iald C dX6_count_20 (by decide) rfl (by omega) (by decide) (fun hr3 => ?_)
    rw [hf (w - 10) (by omega) (by omega)]
    have hfb : zR (gF s (w - 10)) := by rw [← hf (w - 10) (by omega) (by omega)]; exact hrm 37 (w - 10)
    exact E dX6_count_21 (by omega) rfl (t_fin (P := zRf) (show tCount s w = ((gF s (w - 10)), s) by unfold tCount; (first | rw [hgv] | skip); repeat (first | rw [if_pos (by omega)] | rw [if_neg (by omega)])) hs (fun a _ => rfl))
  · refine z_if_eq C dX6_count_9 (tgt := 22) (by decide) (by decide) (fun _ => ?_) (fun c4 => (by exfalso; omega))
    refine z_iload_n C dX6_count_22 1 rfl ?_
    by_cases e5_0 : w = 0
    · refine z_tabIn C dX6_count_23 (by omega) 0 (by omega) (by omega) (off := 49) (tgt := 72) rfl (by decide) ?_
      refine z_aload_n C dX6_count_72 0 rfl ?_
      refine z_getI C ffX6_7 dX6_count_73 (by decide) rfl rfl 0 rfl (fun hr6 => ?_)
      rw [hq1]
      exact E dX6_count_76 (by omega) rfl (t_fin (P := zRf) (show tCount s w = ((vL v), s) by unfold tCount; (first | rw [hgv] | skip); repeat (first | rw [if_pos (by omega)] | rw [if_neg (by omega)])) hs (fun a _ => rfl))
    by_cases e5_1 : w = 1
    · refine z_tabIn C dX6_count_23 (by omega) 1 (by omega) (by omega) (off := 54) (tgt := 77) rfl (by decide) ?_
      refine z_aload_n C dX6_count_77 0 rfl ?_
      refine z_getI C ffX6_13 dX6_count_78 (by decide) rfl rfl 1 rfl (fun hr7 => ?_)
      rw [hq2]
      exact E dX6_count_81 (by omega) rfl (t_fin (P := zRf) (show tCount s w = ((vR v), s) by unfold tCount; (first | rw [hgv] | skip); repeat (first | rw [if_pos (by omega)] | rw [if_neg (by omega)])) hs (fun a _ => rfl))
    by_cases e5_2 : w = 2
    · refine z_tabIn C dX6_count_23 (by omega) 2 (by omega) (by omega) (off := 59) (tgt := 82) rfl (by decide) ?_
      refine z_aload_n C dX6_count_82 0 rfl ?_
      refine z_callVi C (c_X6_roundsNow (zl X) μ v hq ho) yyX6_roundsNow mlX6_187 (zRc_of (i := 31) C (by decide) rfl rfl) dX6_count_83 rfl rfl (Nat.le_of_ble_eq_true rfl) (by decide) (fun r8 m8 hr8 hp8 => ?_)
      obtain ⟨rfl, hp8⟩ := hp8
      rw [hp8]
      exact E dX6_count_86 (by omega) rfl (t_fin (P := zRf) (show tCount s w = ((vN v), s) by unfold tCount; (first | rw [hgv] | skip); repeat (first | rw [if_pos (by omega)] | rw [if_neg (by omega)])) hs (fun a _ => rfl))
    by_cases e5_3 : w = 3
    · refine z_tabIn C dX6_count_23 (by omega) 3 (by omega) (by omega) (off := 64) (tgt := 87) rfl (by decide) ?_
      refine z_aload_n C dX6_count_87 0 rfl ?_
      refine z_getI C ffX6_16 dX6_count_88 (by decide) rfl rfl 2 rfl (fun hr9 => ?_)
      rw [hq3]
      exact E dX6_count_91 (by omega) rfl (t_fin (P := zRf) (show tCount s w = ((vS v), s) by unfold tCount; (first | rw [hgv] | skip); repeat (first | rw [if_pos (by omega)] | rw [if_neg (by omega)])) hs (fun a _ => rfl))
    by_cases e5_4 : w = 4
    · refine z_tabIn C dX6_count_23 (by omega) 4 (by omega) (by omega) (off := 69) (tgt := 92) rfl (by decide) ?_
      refine z_aload_n C dX6_count_92 0 rfl ?_
      refine z_getI C ffX6_19 dX6_count_93 (by decide) rfl rfl 3 rfl (fun hr10 => ?_)
      rw [hq4]
      exact E dX6_count_96 (by omega) rfl (t_fin (P := zRf) (show tCount s w = ((vH v), s) by unfold tCount; (first | rw [hgv] | skip); repeat (first | rw [if_pos (by omega)] | rw [if_neg (by omega)])) hs (fun a _ => rfl))
    by_cases e5_5 : w = 5
    · refine z_tabIn C dX6_count_23 (by omega) 5 (by omega) (by omega) (off := 74) (tgt := 97) rfl (by decide) ?_
      refine z_aload_n C dX6_count_97 0 rfl ?_
      refine z_getI C ffX6_22 dX6_count_98 (by decide) rfl rfl 4 rfl (fun hr11 => ?_)
      rw [hq5]
      exact E dX6_count_101 (by omega) rfl (t_fin (P := zRf) (show tCount s w = ((vW v), s) by unfold tCount; (first | rw [hgv] | skip); repeat (first | rw [if_pos (by omega)] | rw [if_neg (by omega)])) hs (fun a _ => rfl))
    by_cases e5_6 : w = 6
    · refine z_tabIn C dX6_count_23 (by omega) 6 (by omega) (by omega) (off := 79) (tgt := 102) rfl (by decide) ?_
      refine z_aload_n C dX6_count_102 0 rfl ?_
      refine z_callVi C (c_X6_allGaps (zl X) μ v hq ho) yyX6_allGaps mlX6_283 (zRc_of (i := 31) C (by decide) rfl rfl) dX6_count_103 rfl rfl (Nat.le_of_ble_eq_true rfl) (by decide) (fun r12 m12 hr12 hp12 => ?_)
      obtain ⟨rfl, hp12⟩ := hp12
      rw [hp12]
      have hgb := sGaN_b ho 10
      exact E dX6_count_106 (by omega) rfl (t_fin (P := zRf) (show tCount s w = ((sGaN v 10), s) by unfold tCount; (first | rw [hgv] | skip); repeat (first | rw [if_pos (by omega)] | rw [if_neg (by omega)])) hs (fun a _ => rfl))
    by_cases e5_7 : w = 7
    · refine z_tabIn C dX6_count_23 (by omega) 7 (by omega) (by omega) (off := 84) (tgt := 107) rfl (by decide) ?_
      refine z_aload_n C dX6_count_107 0 rfl ?_
      refine z_getI C ffX6_28 dX6_count_108 (by decide) rfl rfl 6 rfl (fun hr13 => ?_)
      rw [hm]
      exact E dX6_count_111 (by omega) rfl (t_fin (P := zRf) (show tCount s w = ((gM s), s) by unfold tCount; (first | rw [hgv] | skip); repeat (first | rw [if_pos (by omega)] | rw [if_neg (by omega)])) hs (fun a _ => rfl))
    by_cases e5_8 : w = 8
    · refine z_tabIn C dX6_count_23 (by omega) 8 (by omega) (by omega) (off := 89) (tgt := 112) rfl (by decide) ?_
      refine z_aload_n C dX6_count_112 0 rfl ?_
      refine z_getI C ffX6_25 dX6_count_113 (by decide) rfl rfl 5 rfl (fun hr14 => ?_)
      rw [x1]
      exact E dX6_count_116 (by omega) rfl (t_fin (P := zRf) (show tCount s w = ((gN s), s) by unfold tCount; (first | rw [hgv] | skip); repeat (first | rw [if_pos (by omega)] | rw [if_neg (by omega)])) hs (fun a _ => rfl))
    refine z_tabOut C dX6_count_23 (by omega) (by omega) (tgt := 117) (by decide) ?_
    refine z_bipush C dX6_count_117 (by decide) ?_
    exact E dX6_count_119 (by decide) rfl (t_fin (P := zRf) (show tCount s w = ((-9), s) by unfold tCount; (first | rw [hgv] | skip); repeat (first | rw [if_pos (by omega)] | rw [if_neg (by omega)])) hs (fun a _ => rfl))
