/-! contracts: become, addPerson -/
set_option maxHeartbeats 4000000 in
theorem c_X4_become (l : Launch) (μ : zM) (t u : Nat) (ht : zTo t) (hu : zTo u) (hne : t ≠ u) (w : zVw) (hw : zT μ u w) : zMv l yX4_become cX4_become 2 1 68 [.inr t, .inr u] μ (fun (m : zM) => zT m t w ∧ ∀ i, (i < t ∨ t + 5 ≤ i) → m i = μ i) := by
  refine zMv_of (own := RX4) (by decide +kernel) rfl (Nat.le_of_ble_eq_true rfl) ?_
  intro X hX C hrm E
  subst hX
  show zJ X 2 μ 0 [(0, .inr t), (1, .inr u)] []
  refine z_aload_n C dX4_become_0 1 rfl ?_
  refine z_getR C ffX4_9 dX4_become_1 (by have := zto_lt hu; omega) (zd_to0 hu) rfl ?_
  refine z_iconst C dX4_become_4 ?_
  refine z_aload_n C dX4_become_5 0 rfl ?_
  refine z_getR C ffX4_9 dX4_become_6 (by have := zto_lt ht; omega) (zd_to0 ht) rfl ?_
  refine z_iconst C dX4_become_9 ?_
  refine z_aload_n C dX4_become_10 0 rfl ?_
  refine z_getR C ffX4_9 dX4_become_11 (by have := zto_lt ht; omega) (zd_to0 ht) rfl ?_
  refine z_alen C dX4_become_14 (by have := zto_lt ht; omega) (zd_to1 ht) 2 rfl ?_
  refine z_acopy C dX4_become_15 zz_lnk (by have := zto_lt hu; omega) (by have := zto_lt ht; omega) (zd_to1 hu) (zd_to1 ht) (by decide) 2 rfl (by decide) ?_
  refine z_mem (fun m1 em1 => ?_)
  refine z_aload_n C dX4_become_18 1 rfl ?_
  refine z_getR C ffX4_15 dX4_become_19 (by have := zto_lt hu; omega) (zd_to0 hu) rfl ?_
  refine z_iconst C dX4_become_22 ?_
  refine z_aload_n C dX4_become_23 0 rfl ?_
  refine z_getR C ffX4_15 dX4_become_24 (by have := zto_lt ht; omega) (zd_to0 ht) rfl ?_
  refine z_iconst C dX4_become_27 ?_
  refine z_aload_n C dX4_become_28 0 rfl ?_
  refine z_getR C ffX4_15 dX4_become_29 (by have := zto_lt ht; omega) (zd_to0 ht) rfl ?_
  refine z_alen C dX4_become_32 (by have := zto_lt ht; omega) (zd_to2 ht) 10 rfl ?_
  refine z_acopy C dX4_become_33 zz_lnk (by have := zto_lt hu; omega) (by have := zto_lt ht; omega) (zd_to2 hu) (zd_to2 ht) (by decide) 10 rfl (by decide) ?_
  refine z_mem (fun m2 em2 => ?_)
  refine z_aload_n C dX4_become_36 1 rfl ?_
  refine z_getR C ffX4_18 dX4_become_37 (by have := zto_lt hu; omega) (zd_to0 hu) rfl ?_
  refine z_iconst C dX4_become_40 ?_
  refine z_aload_n C dX4_become_41 0 rfl ?_
  refine z_getR C ffX4_18 dX4_become_42 (by have := zto_lt ht; omega) (zd_to0 ht) rfl ?_
  refine z_iconst C dX4_become_45 ?_
  refine z_aload_n C dX4_become_46 0 rfl ?_
  refine z_getR C ffX4_18 dX4_become_47 (by have := zto_lt ht; omega) (zd_to0 ht) rfl ?_
  refine z_alen C dX4_become_50 (by have := zto_lt ht; omega) (zd_to3 ht) 10 rfl ?_
  refine z_acopy C dX4_become_51 zz_lnk (by have := zto_lt hu; omega) (by have := zto_lt ht; omega) (zd_to3 hu) (zd_to3 ht) (by decide) 10 rfl (by decide) ?_
  refine z_mem (fun m3 em3 => ?_)
  refine z_aload_n C dX4_become_54 1 rfl ?_
  refine z_getR C ffX4_21 dX4_become_55 (by have := zto_lt hu; omega) (zd_to0 hu) rfl ?_
  refine z_iconst C dX4_become_58 ?_
  refine z_aload_n C dX4_become_59 0 rfl ?_
  refine z_getR C ffX4_21 dX4_become_60 (by have := zto_lt ht; omega) (zd_to0 ht) rfl ?_
  refine z_iconst C dX4_become_63 ?_
  refine z_aload_n C dX4_become_64 0 rfl ?_
  refine z_getR C ffX4_21 dX4_become_65 (by have := zto_lt ht; omega) (zd_to0 ht) rfl ?_
  refine z_alen C dX4_become_68 (by have := zto_lt ht; omega) (zd_to4 ht) 100 rfl ?_
  refine z_acopy C dX4_become_69 zz_lnk (by have := zto_lt hu; omega) (by have := zto_lt ht; omega) (zd_to4 hu) (zd_to4 ht) (by decide) 100 rfl (by decide) ?_
  refine z_mem (fun m4 em4 => ?_)
  refine z_aload_n C dX4_become_72 0 rfl ?_
  refine z_aload_n C dX4_become_73 1 rfl ?_
  refine z_getI C ffX4_24 dX4_become_74 (by have := zto_lt hu; omega) (zd_to0 hu) rfl 4 rfl (fun hr5 => ?_)
  refine z_putI C ffX4_24 fp4_4 dX4_become_77 (by have := zto_lt ht; omega) (zd_to0 ht) rfl 4 rfl (by omega) ?_
  refine z_mem (fun m6 em6 => ?_)
  refine z_aload_n C dX4_become_80 0 rfl ?_
  refine z_aload_n C dX4_become_81 1 rfl ?_
  refine z_getI C ffX4_28 dX4_become_82 (by have := zto_lt hu; omega) (zd_to0 hu) rfl 5 rfl (fun hr7 => ?_)
  refine z_putI C ffX4_28 fp4_5 dX4_become_85 (by have := zto_lt ht; omega) (zd_to0 ht) rfl 5 rfl (by omega) ?_
  refine z_mem (fun m8 em8 => ?_)
  refine z_aload_n C dX4_become_88 0 rfl ?_
  refine z_aload_n C dX4_become_89 1 rfl ?_
  refine z_getI C ffX4_31 dX4_become_90 (by have := zto_lt hu; omega) (zd_to0 hu) rfl 6 rfl (fun hr9 => ?_)
  refine z_putI C ffX4_31 fp4_6 dX4_become_93 (by have := zto_lt ht; omega) (zd_to0 ht) rfl 6 rfl (by omega) ?_
  refine z_mem (fun m10 em10 => ?_)
  exact E dX4_become_96 (become_T ht hu hne hw em1 em2 em3 em4 em6 em8 em10)
set_option maxHeartbeats 4000000 in
theorem c_X4_addPerson (l : Launch) (μ : zM) (t : Nat) (ht : zTo t) (v : zVw) (hv : zT μ t v) (ho : vOK v) (s k b : Int) (hs : s = 0 ∨ s = 1) (hk : 0 ≤ k ∧ k ≤ 5) (hb : 0 ≤ b ∧ b ≤ 9) : zMi l yX4_addPerson cX4_addPerson 6 (.boolean) 1 23 [.inr t, .inl s, .inl k, .inl b] μ (fun (r : Int) (m : zM) => (r = 1 ∧ ((s = 0 ∧ vL v < 5) ∨ (s = 1 ∧ vR v < 5)) ∧ zT m t (vAdd v s k b) ∧ ∀ a, (a < t ∨ t + 5 ≤ a) → m a = μ a) ∨ (r = 0 ∧ ¬ ((s = 0 ∧ vL v < 5) ∨ (s = 1 ∧ vR v < 5)) ∧ μ = m)) := by
  refine zMi_of (own := RX4) (by decide +kernel) rfl (Nat.le_of_ble_eq_true rfl) ?_
  intro X hX C hrm E
  subst hX
  show zJ X 6 μ 0 [(0, .inr t), (1, .inl s), (2, .inl k), (3, .inl b)] []
  obtain ⟨hv1, hv2, hv3, hv4, hv5, hv6, hv7⟩ := id hv
  obtain ⟨ho1, ho2, ho3, ho4, ho5, ho6, ho7⟩ := id ho
  have hp : 0 ≤ μ (t + 1) s ∧ μ (t + 1) s ≤ 5 := by rcases hs with rfl | rfl <;> omega
  refine z_aload_n C dX4_addPerson_0 0 rfl ?_
  refine z_getR C ffX4_9 dX4_addPerson_1 (by have := zto_lt ht; omega) (zd_to0 ht) rfl ?_
  refine z_iload_n C dX4_addPerson_4 1 rfl ?_
  refine z_iald C dX4_addPerson_5 (by have := zto_lt ht; omega) (zd_to1 ht) (by omega) (by decide) (fun hr1 => ?_)
  refine z_iconst C dX4_addPerson_6 ?_
  refine z_icmp_lt C dX4_addPerson_7 (tgt := 12) (by decide) (by omega) (by decide) (fun c2 => ?_) (fun c2 => ?_)
  · refine z_iload_n C dX4_addPerson_12 1 rfl ?_
    refine z_iconst C dX4_addPerson_13 ?_
    refine z_imul C dX4_addPerson_14 ?_
    refine z_aload_n C dX4_addPerson_15 0 rfl ?_
    refine z_getR C ffX4_9 dX4_addPerson_16 (by have := zto_lt ht; omega) (zd_to0 ht) rfl ?_
    refine z_iload_n C dX4_addPerson_19 1 rfl ?_
    refine z_iald C dX4_addPerson_20 (by have := zto_lt ht; omega) (zd_to1 ht) (by omega) (by decide) (fun hr3 => ?_)
    refine z_iadd C dX4_addPerson_21 ?_
    refine z_istore C dX4_addPerson_22 (by decide) (L' := [(0, _), (1, _), (2, _), (3, _), (4, _)]) rfl ?_
    refine z_aload_n C dX4_addPerson_24 0 rfl ?_
    refine z_getR C ffX4_9 dX4_addPerson_25 (by have := zto_lt ht; omega) (zd_to0 ht) rfl ?_
    refine z_iload_n C dX4_addPerson_28 1 rfl ?_
    refine z_dup2 C dX4_addPerson_29 ?_
    refine z_iald C dX4_addPerson_30 (by have := zto_lt ht; omega) (zd_to1 ht) (by omega) (by decide) (fun hr4 => ?_)
    refine z_iconst C dX4_addPerson_31 ?_
    refine z_iadd C dX4_addPerson_32 ?_
    refine z_iast C dX4_addPerson_33 (by have := zto_lt ht; omega) (zd_to1 ht) (by omega) (by decide) (by omega) ?_
    refine z_mem (fun m5 em5 => ?_)
    refine z_aload_n C dX4_addPerson_34 0 rfl ?_
    refine z_getR C ffX4_15 dX4_addPerson_35 (by have := zto_lt ht; omega) (zd_to0 ht) rfl ?_
    refine z_iload C dX4_addPerson_38 4 rfl ?_
    refine z_iload_n C dX4_addPerson_40 2 rfl ?_
    refine z_iast C dX4_addPerson_41 (by have := zto_lt ht; omega) (zd_to2 ht) (by omega) (by decide) (by omega) ?_
    refine z_mem (fun m6 em6 => ?_)
    refine z_aload_n C dX4_addPerson_42 0 rfl ?_
    refine z_getR C ffX4_18 dX4_addPerson_43 (by have := zto_lt ht; omega) (zd_to0 ht) rfl ?_
    refine z_iload C dX4_addPerson_46 4 rfl ?_
    refine z_iload_n C dX4_addPerson_48 3 rfl ?_
    refine z_iast C dX4_addPerson_49 (by have := zto_lt ht; omega) (zd_to3 ht) (by omega) (by decide) (by omega) ?_
    refine z_mem (fun m7 em7 => ?_)
    refine z_iconst C dX4_addPerson_50 ?_
    refine z_istore C dX4_addPerson_51 (by decide) (L' := [(0, _), (1, _), (2, _), (3, _), (4, _), (5, _)]) rfl ?_
    have LP53 : ∀ (N53 : Nat) (i : Int) (m : zM), (0 ≤ i) → (i ≤ 10) → (∀ a, a ≠ t + 4 → m a = m7 a) → (∀ x y, 0 ≤ x → x < 10 → 0 ≤ y → y < 10 → m (t + 4) (x * 10 + y) = if (x = s * 5 + μ (t + 1) s ∧ y < i) ∨ (y = s * 5 + μ (t + 1) s ∧ x < i) then 5 else m7 (t + 4) (x * 10 + y)) → (10 - i).toNat < N53 → zJ X 6 m 53 [(0, .inr t), (1, .inl s), (2, .inl k), (3, .inl b), (4, .inl ((s * 5) + (μ (t + 1) s))), (5, .inl i)] [] := by
      intro N53
      induction N53 with
      | zero => intro i m h53_0 h53_1 h53_2 h53_3 hN; exact absurd hN (Nat.not_lt_zero _)
      | succ N53 ih53 =>
        intro i m h53_0 h53_1 h53_2 h53_3 hN53
        refine z_iload C dX4_addPerson_53 5 rfl ?_
        refine z_bipush C dX4_addPerson_55 (by decide) ?_
        refine z_icmp_ge C dX4_addPerson_57 (tgt := 84) (by decide) (by omega) (by decide) (fun c8 => ?_) (fun c8 => ?_)
        · refine z_iconst C dX4_addPerson_84 ?_
          exact E dX4_addPerson_85 (by decide) (z_nb (Or.inr rfl)) (Or.inl ⟨rfl, (by rcases hs with rfl | rfl <;> omega), vAdd_T hv ho hs (by omega) (by omega) em5 em6 em7 h53_2 h53_3⟩)
        · refine z_aload_n C dX4_addPerson_60 0 rfl ?_
          refine z_iload C dX4_addPerson_61 4 rfl ?_
          refine z_iload C dX4_addPerson_63 5 rfl ?_
          refine z_iconst C dX4_addPerson_65 ?_
          refine z_callVv C (c_X4_setLiking (zl X) m t ht ((s * 5) + (μ (t + 1) s)) i 5 (by omega) (by omega) (by omega)) yyX4_setLiking mlX4_58 (zRc_of C (by have := zto_lt ht; omega) (zd_to0 ht) rfl) dX4_addPerson_66 rfl rfl (Nat.le_of_ble_eq_true rfl) (by decide) (fun m9 hp9 => ?_)
          refine z_aload_n C dX4_addPerson_69 0 rfl ?_
          refine z_iload C dX4_addPerson_70 5 rfl ?_
          refine z_iload C dX4_addPerson_72 4 rfl ?_
          refine z_iconst C dX4_addPerson_74 ?_
          refine z_callVv C (c_X4_setLiking (zl X) m9 t ht i ((s * 5) + (μ (t + 1) s)) 5 (by omega) (by omega) (by omega)) yyX4_setLiking mlX4_58 (zRc_of C (by have := zto_lt ht; omega) (zd_to0 ht) rfl) dX4_addPerson_75 rfl rfl (Nat.le_of_ble_eq_true rfl) (by decide) (fun m10 hp10 => ?_)
          refine z_iinc C dX4_addPerson_78 5 rfl (by decide) (L' := [(0, _), (1, _), (2, _), (3, _), (4, _), (5, _)]) rfl ?_
          refine z_goto C dX4_addPerson_81 (tgt := 53) (by decide) ?_
          exact ih53 _ m10 (by omega) (by omega) (fun a ha => by rw [hp10, zs_ne _ _ _ ha, hp9, zs_ne _ _ _ ha]; exact h53_2 a ha) (fun x y x0 x1 y0 y1 => by rw [hp10, zs_at, hp9, zs_at, h53_3 x y x0 x1 y0 y1]; split <;> (try split) <;> (try split) <;> (try split) <;> first | rfl | (exfalso; omega)) (by omega)
    exact LP53 _ _ m7 (by omega) (by omega) (fun _ _ => rfl) (fun x y x0 x1 y0 y1 => by rw [if_neg (by omega)]) (Nat.lt_succ_self _)
  · refine z_iconst C dX4_addPerson_10 ?_
    exact E dX4_addPerson_11 (by decide) (z_nb (Or.inl rfl)) (Or.inr ⟨rfl, (by rcases hs with rfl | rfl <;> omega), rfl⟩)
