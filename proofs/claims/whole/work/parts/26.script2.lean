/-! contracts: Script, what is carried out -/
theorem sCar_s (tx : Int → Int) (n p : Int) (w : zVw) {k : Int} (h : k < n) : sCar tx n (n - k).toNat p w = if p < n then (if sGdb tx p w = true then sCar tx n (n - (k + 1)).toNat (sSta tx n p).2 (sDo tx p w) else (p, w)) else (-9, w) := by
  rw [show (n - k).toNat = (n - (k + 1)).toNat + 1 by omega, sCar]
theorem sCar_end {tx : Int → Int} {n p : Int} {f : Nat} {w : zVw} (hp : ¬ p < n) : sCar tx n f p w = (-9, w) := by
  cases f with
  | zero => rfl
  | succ f => rw [sCar, if_neg hp]
set_option maxHeartbeats 4000000 in
theorem c_X3_setLiking (l : Launch) (μ : zM) (t : Nat) (ht : zTo t) (v : zVw) (hv : zT μ t v) (ho : vOK v) (tx : Int → Int) (n : Int) (hx : zLt μ tx n) (p : Int) (hp0 : 0 ≤ p) (hs : (sSta tx n p).1 = true) (hf : zFm (tx p) = 2) : zMi l yX3_setLiking cX3_setLiking 5 (.boolean) 3 63 [.inr 16, .inr t, .inl p] μ (fun (r : Int) (m : zM) => (r = 1 ∧ (vTh v (tx (p + 1) - 48) ∧ vTh v (tx (p + 2) - 48) ∧ zU (tx (p + 1) - 48) (tx (p + 2) - 48)) ∧ m = zs μ (t + 4) ((tx (p + 1) - 48) * 10 + (tx (p + 2) - 48)) (tx (p + 3) - 48)) ∨ (r = 0 ∧ ¬ (vTh v (tx (p + 1) - 48) ∧ vTh v (tx (p + 2) - 48) ∧ zU (tx (p + 1) - 48) (tx (p + 2) - 48)) ∧ m = μ)) := by
  refine zMi_of (own := RX3) (by decide +kernel) rfl (Nat.le_of_ble_eq_true rfl) ?_
  intro X hX C hrm E
  subst hX
  show zJ X 5 μ 0 [(0, .inr 16), (1, .inr t), (2, .inl p)] []
  obtain ⟨hv1, hv2, hv3, hv4, hv5, hv6, hv7⟩ := id hv
  obtain ⟨ho1, ho2, ho3, ho4, ho5, ho6, ho7⟩ := id ho
  obtain ⟨x1, x2, x3⟩ := id hx
  have hs2 := sSta_2 hs hf
  refine z_aload_n C dX3_setLiking_0 0 rfl ?_
  refine z_iload_n C dX3_setLiking_1 2 rfl ?_
  refine z_iconst C dX3_setLiking_2 ?_
  refine z_iadd C dX3_setLiking_3 ?_
  refine z_callVi C (c_X3_digitAt (zl X) μ tx n hx (p + 1) (by omega)) yyX3_digitAt mlX3_66 (zRc_of (i := 16) C (by decide) rfl rfl) dX3_setLiking_4 rfl rfl (Nat.le_of_ble_eq_true rfl) (by decide) (fun r1 m1 hr1 hp1 => ?_)
  obtain ⟨rfl, hp1⟩ := hp1
  rw [hp1]
  refine z_istore_n C dX3_setLiking_7 (by decide) (L' := [(0, _), (1, _), (2, _), (3, _)]) rfl ?_
  refine z_aload_n C dX3_setLiking_8 0 rfl ?_
  refine z_iload_n C dX3_setLiking_9 2 rfl ?_
  refine z_iconst C dX3_setLiking_10 ?_
  refine z_iadd C dX3_setLiking_11 ?_
  refine z_callVi C (c_X3_digitAt (zl X) μ tx n hx (p + 2) (by omega)) yyX3_digitAt mlX3_66 (zRc_of (i := 16) C (by decide) rfl rfl) dX3_setLiking_12 rfl rfl (Nat.le_of_ble_eq_true rfl) (by decide) (fun r2 m2 hr2 hp2 => ?_)
  obtain ⟨rfl, hp2⟩ := hp2
  rw [hp2]
  refine z_istore C dX3_setLiking_15 (by decide) (L' := [(0, _), (1, _), (2, _), (3, _), (4, _)]) rfl ?_
  refine z_aload_n C dX3_setLiking_17 1 rfl ?_
  refine z_iload_n C dX3_setLiking_18 3 rfl ?_
  refine z_iload C dX3_setLiking_19 4 rfl ?_
  refine z_callVi C (c_X4_areUnlike (zl X) μ t ht v hv ho (tx (p + 1) - 48) (tx (p + 2) - 48) (by omega) (by omega)) yyX4_areUnlike mlX3_84 (zRc_of (i := t) C (by have := zto_lt ht; omega) (zd_to0 ht) rfl) dX3_setLiking_21 rfl rfl (Nat.le_of_ble_eq_true rfl) (by decide) (fun r3 m3 hr3 hp3 => ?_)
  obtain ⟨rfl, hp3⟩ := hp3
  rcases hp3 with ⟨rfl, hp3⟩ | ⟨rfl, hp3⟩
  · refine z_if_ne C dX3_setLiking_24 (tgt := 29) (by decide) (by decide) (fun _ => ?_) (fun c4 => (by exfalso; omega))
    refine z_aload_n C dX3_setLiking_29 1 rfl ?_
    refine z_iload_n C dX3_setLiking_30 3 rfl ?_
    refine z_iload C dX3_setLiking_31 4 rfl ?_
    refine z_aload_n C dX3_setLiking_33 0 rfl ?_
    refine z_iload_n C dX3_setLiking_34 2 rfl ?_
    refine z_iconst C dX3_setLiking_35 ?_
    refine z_iadd C dX3_setLiking_36 ?_
    refine z_callVi C (c_X3_digitAt (zl X) μ tx n hx (p + 3) (by omega)) yyX3_digitAt mlX3_66 (zRc_of (i := 16) C (by decide) rfl rfl) dX3_setLiking_37 rfl rfl (Nat.le_of_ble_eq_true rfl) (by decide) (fun r5 m5 hr5 hp5 => ?_)
    obtain ⟨rfl, hp5⟩ := hp5
    rw [hp5]
    refine z_callVv C (c_X4_setLiking (zl X) μ t ht (tx (p + 1) - 48) (tx (p + 2) - 48) (tx (p + 3) - 48) (by omega) (by omega) (by omega)) yyX4_setLiking mlX3_88 (zRc_of (i := t) C (by have := zto_lt ht; omega) (zd_to0 ht) rfl) dX3_setLiking_40 rfl rfl (Nat.le_of_ble_eq_true rfl) (by decide) (fun m6 hp6 => ?_)
    refine z_iconst C dX3_setLiking_43 ?_
    exact E dX3_setLiking_44 (by decide) (z_nb (Or.inr rfl)) (Or.inl ⟨rfl, (by omega), (by assumption)⟩)
  · refine z_if_ne C dX3_setLiking_24 (tgt := 29) (by decide) (by decide) (fun c7 => (by exfalso; omega)) (fun _ => ?_)
    refine z_iconst C dX3_setLiking_27 ?_
    exact E dX3_setLiking_28 (by decide) (z_nb (Or.inl rfl)) (Or.inr ⟨rfl, (by omega), rfl⟩)
set_option maxHeartbeats 4000000 in
theorem c_X3_setOrder (l : Launch) (μ : zM) (t : Nat) (ht : zTo t) (v : zVw) (hv : zT μ t v) (ho : vOK v) (tx : Int → Int) (n : Int) (hx : zLt μ tx n) (p : Int) (hp0 : 0 ≤ p) (hs : (sSta tx n p).1 = true) (hf : zFm (tx p) = 3) : zMi l yX3_setOrder cX3_setOrder 5 (.boolean) 1 21 [.inr 16, .inr t, .inl p] μ (fun (r : Int) (m : zM) => (r = 1 ∧ (1 ≤ (tx (p + 1) - 48) ∧ (tx (p + 1) - 48) ≤ 4 ∧ (tx (p + 2) - 48) ≤ 4) ∧ m = zs (zs μ t 4 (tx (p + 1) - 48)) t 5 (tx (p + 2) - 48)) ∨ (r = 0 ∧ ¬ (1 ≤ (tx (p + 1) - 48) ∧ (tx (p + 1) - 48) ≤ 4 ∧ (tx (p + 2) - 48) ≤ 4) ∧ m = μ)) := by
  refine zMi_of (own := RX3) (by decide +kernel) rfl (Nat.le_of_ble_eq_true rfl) ?_
  intro X hX C hrm E
  subst hX
  show zJ X 5 μ 0 [(0, .inr 16), (1, .inr t), (2, .inl p)] []
  obtain ⟨hv1, hv2, hv3, hv4, hv5, hv6, hv7⟩ := id hv
  obtain ⟨ho1, ho2, ho3, ho4, ho5, ho6, ho7⟩ := id ho
  obtain ⟨x1, x2, x3⟩ := id hx
  have hs2 := sSta_3 hs hf
  refine z_aload_n C dX3_setOrder_0 0 rfl ?_
  refine z_iload_n C dX3_setOrder_1 2 rfl ?_
  refine z_iconst C dX3_setOrder_2 ?_
  refine z_iadd C dX3_setOrder_3 ?_
  refine z_callVi C (c_X3_digitAt (zl X) μ tx n hx (p + 1) (by omega)) yyX3_digitAt mlX3_66 (zRc_of (i := 16) C (by decide) rfl rfl) dX3_setOrder_4 rfl rfl (Nat.le_of_ble_eq_true rfl) (by decide) (fun r1 m1 hr1 hp1 => ?_)
  obtain ⟨rfl, hp1⟩ := hp1
  rw [hp1]
  refine z_istore_n C dX3_setOrder_7 (by decide) (L' := [(0, _), (1, _), (2, _), (3, _)]) rfl ?_
  refine z_aload_n C dX3_setOrder_8 0 rfl ?_
  refine z_iload_n C dX3_setOrder_9 2 rfl ?_
  refine z_iconst C dX3_setOrder_10 ?_
  refine z_iadd C dX3_setOrder_11 ?_
  refine z_callVi C (c_X3_digitAt (zl X) μ tx n hx (p + 2) (by omega)) yyX3_digitAt mlX3_66 (zRc_of (i := 16) C (by decide) rfl rfl) dX3_setOrder_12 rfl rfl (Nat.le_of_ble_eq_true rfl) (by decide) (fun r2 m2 hr2 hp2 => ?_)
  obtain ⟨rfl, hp2⟩ := hp2
  rw [hp2]
  refine z_istore C dX3_setOrder_15 (by decide) (L' := [(0, _), (1, _), (2, _), (3, _), (4, _)]) rfl ?_
  refine z_iload_n C dX3_setOrder_17 3 rfl ?_
  refine z_iconst C dX3_setOrder_18 ?_
  refine z_icmp_lt C dX3_setOrder_19 (tgt := 33) (by decide) (by omega) (by decide) (fun c3 => ?_) (fun c3 => ?_)
  · refine z_iconst C dX3_setOrder_33 ?_
    exact E dX3_setOrder_34 (by decide) (z_nb (Or.inl rfl)) (Or.inr ⟨rfl, (by omega), rfl⟩)
  · refine z_iload_n C dX3_setOrder_22 3 rfl ?_
    refine z_iconst C dX3_setOrder_23 ?_
    refine z_icmp_gt C dX3_setOrder_24 (tgt := 33) (by decide) (by omega) (by decide) (fun c4 => ?_) (fun c4 => ?_)
    · refine z_iconst C dX3_setOrder_33 ?_
      exact E dX3_setOrder_34 (by decide) (z_nb (Or.inl rfl)) (Or.inr ⟨rfl, (by omega), rfl⟩)
    · refine z_iload C dX3_setOrder_27 4 rfl ?_
      refine z_iconst C dX3_setOrder_29 ?_
      refine z_icmp_le C dX3_setOrder_30 (tgt := 35) (by decide) (by omega) (by decide) (fun c5 => ?_) (fun c5 => ?_)
      · refine z_aload_n C dX3_setOrder_35 1 rfl ?_
        refine z_iload_n C dX3_setOrder_36 3 rfl ?_
        refine z_putI C ffX3_91 fp4_4 dX3_setOrder_37 (by have := zto_lt ht; omega) (zd_to0 ht) rfl 4 rfl (by omega) ?_
        refine z_mem (fun m6 em6 => ?_)
        refine z_aload_n C dX3_setOrder_40 1 rfl ?_
        refine z_iload C dX3_setOrder_41 4 rfl ?_
        refine z_putI C ffX3_94 fp4_5 dX3_setOrder_43 (by have := zto_lt ht; omega) (zd_to0 ht) rfl 5 rfl (by omega) ?_
        refine z_mem (fun m7 em7 => ?_)
        refine z_iconst C dX3_setOrder_46 ?_
        exact E dX3_setOrder_47 (by decide) (z_nb (Or.inr rfl)) (Or.inl ⟨rfl, (by omega), (by rw [em7, em6])⟩)
      · refine z_iconst C dX3_setOrder_33 ?_
        exact E dX3_setOrder_34 (by decide) (z_nb (Or.inl rfl)) (Or.inr ⟨rfl, (by omega), rfl⟩)
set_option maxHeartbeats 4000000 in
theorem c_X3_setLaw (l : Launch) (μ : zM) (t : Nat) (ht : zTo t) (v : zVw) (hv : zT μ t v) (ho : vOK v) (tx : Int → Int) (n : Int) (hx : zLt μ tx n) (p : Int) (hp0 : 0 ≤ p) (hs : (sSta tx n p).1 = true) (hf : zFm (tx p) = 4) : zMi l yX3_setLaw cX3_setLaw 4 (.boolean) 1 21 [.inr 16, .inr t, .inl p] μ (fun (r : Int) (m : zM) => (r = 1 ∧ ((tx (p + 1) - 48) ≤ 3) ∧ m = zs μ t 6 (tx (p + 1) - 48)) ∨ (r = 0 ∧ ¬ ((tx (p + 1) - 48) ≤ 3) ∧ m = μ)) := by
  refine zMi_of (own := RX3) (by decide +kernel) rfl (Nat.le_of_ble_eq_true rfl) ?_
  intro X hX C hrm E
  subst hX
  show zJ X 4 μ 0 [(0, .inr 16), (1, .inr t), (2, .inl p)] []
  obtain ⟨hv1, hv2, hv3, hv4, hv5, hv6, hv7⟩ := id hv
  obtain ⟨ho1, ho2, ho3, ho4, ho5, ho6, ho7⟩ := id ho
  obtain ⟨x1, x2, x3⟩ := id hx
  have hs2 := sSta_4 hs hf
  refine z_aload_n C dX3_setLaw_0 0 rfl ?_
  refine z_iload_n C dX3_setLaw_1 2 rfl ?_
  refine z_iconst C dX3_setLaw_2 ?_
  refine z_iadd C dX3_setLaw_3 ?_
  refine z_callVi C (c_X3_digitAt (zl X) μ tx n hx (p + 1) (by omega)) yyX3_digitAt mlX3_66 (zRc_of (i := 16) C (by decide) rfl rfl) dX3_setLaw_4 rfl rfl (Nat.le_of_ble_eq_true rfl) (by decide) (fun r1 m1 hr1 hp1 => ?_)
  obtain ⟨rfl, hp1⟩ := hp1
  rw [hp1]
  refine z_istore_n C dX3_setLaw_7 (by decide) (L' := [(0, _), (1, _), (2, _), (3, _)]) rfl ?_
  refine z_iload_n C dX3_setLaw_8 3 rfl ?_
  refine z_callNi C (c_X5_isLaw (zl X) μ (tx (p + 1) - 48) (by omega)) yyX5_isLaw (by decide +kernel) dX3_setLaw_9 rfl rfl (Nat.le_of_ble_eq_true rfl) (by decide) (fun r2 m2 hr2 hp2 => ?_)
  obtain ⟨rfl, hp2⟩ := hp2
  rcases hp2 with ⟨rfl, hp2⟩ | ⟨rfl, hp2⟩
  · refine z_if_ne C dX3_setLaw_12 (tgt := 17) (by decide) (by decide) (fun _ => ?_) (fun c3 => (by exfalso; omega))
    refine z_aload_n C dX3_setLaw_17 1 rfl ?_
    refine z_iload_n C dX3_setLaw_18 3 rfl ?_
    refine z_putI C ffX3_101 fp4_6 dX3_setLaw_19 (by have := zto_lt ht; omega) (zd_to0 ht) rfl 6 rfl (by omega) ?_
    refine z_mem (fun m4 em4 => ?_)
    refine z_iconst C dX3_setLaw_22 ?_
    exact E dX3_setLaw_23 (by decide) (z_nb (Or.inr rfl)) (Or.inl ⟨rfl, (by omega), (by assumption)⟩)
  · refine z_if_ne C dX3_setLaw_12 (tgt := 17) (by decide) (by decide) (fun c5 => (by exfalso; omega)) (fun _ => ?_)
    refine z_iconst C dX3_setLaw_15 ?_
    exact E dX3_setLaw_16 (by decide) (z_nb (Or.inl rfl)) (Or.inr ⟨rfl, (by omega), rfl⟩)
set_option maxHeartbeats 4000000 in
theorem c_X3_carryOutOne (l : Launch) (μ : zM) (t : Nat) (ht : zTo t) (v : zVw) (hv : zT μ t v) (ho : vOK v) (tx : Int → Int) (n : Int) (hx : zLt μ tx n) (p : Int) (hp0 : 0 ≤ p) (hs : (sSta tx n p).1 = true) : zMi l yX3_carryOutOne cX3_carryOutOne 3 (.boolean) 5 112 [.inr 16, .inr t, .inl p] μ (fun (r : Int) (m : zM) => (r = 1 ∧ sGd tx p v ∧ zT m t (sDo tx p v) ∧ ∀ a, (a < t ∨ t + 5 ≤ a) → m a = μ a) ∨ (r = 0 ∧ ¬ sGd tx p v ∧ m = μ)) := by
  refine zMi_of (own := RX3) (by decide +kernel) rfl (Nat.le_of_ble_eq_true rfl) ?_
  intro X hX C hrm E
  subst hX
  show zJ X 3 μ 0 [(0, .inr 16), (1, .inr t), (2, .inl p)] []
  obtain ⟨hv1, hv2, hv3, hv4, hv5, hv6, hv7⟩ := id hv
  obtain ⟨ho1, ho2, ho3, ho4, ho5, ho6, ho7⟩ := id ho
  obtain ⟨x1, x2, x3⟩ := id hx
  have hso := sSta_ok hs
  refine z_aload_n C dX3_carryOutOne_0 0 rfl ?_
  refine z_getR C ffX3_11 dX3_carryOutOne_1 (by decide) rfl rfl ?_
  refine z_iload_n C dX3_carryOutOne_4 2 rfl ?_
  refine z_iald C dX3_carryOutOne_5 (by decide) rfl (by omega) (by decide) (fun hr1 => ?_)
  rw [(x3 p (by omega) (by omega)).1]
  have hq := (x3 p (by omega) (by omega)).2
  by_cases e2_0 : (tx p) = 107
  · refine z_tabIn C dX3_carryOutOne_6 (by omega) 0 (by omega) (by omega) (off := 106) (tgt := 112) rfl (by decide) ?_
    have hf : zFm (tx p) = 2 := by unfold zFm; repeat (first | rw [if_pos (by omega)] | rw [if_neg (by omega)])
    have hs2 := sSta_2 hs hf
    refine z_aload_n C dX3_carryOutOne_112 0 rfl ?_
    refine z_aload_n C dX3_carryOutOne_113 1 rfl ?_
    refine z_iload_n C dX3_carryOutOne_114 2 rfl ?_
    refine z_callVi C (c_X3_setLiking (zl X) μ t ht v hv ho tx n hx p hp0 hs hf) yyX3_setLiking mlX3_75 (zRc_of (i := 16) C (by decide) rfl rfl) dX3_carryOutOne_115 rfl rfl (Nat.le_of_ble_eq_true rfl) (by decide) (fun r3 m3 hr3 hp3 => ?_)
    rcases hp3 with ⟨rfl, hp3⟩ | ⟨rfl, hp3⟩
    · exact E dX3_carryOutOne_118 (by decide) (z_nb (Or.inr rfl)) (Or.inl ⟨rfl, (by omega), (by rw [show sDo tx p v = vLike v (tx (p + 1) - 48) (tx (p + 2) - 48) (tx (p + 3) - 48) by unfold sDo; repeat (first | rw [if_pos (by omega)] | rw [if_neg (by omega)])]; rw [hp3.2]; exact zT_like hv (by omega)), (fun a ha => by rw [hp3.2, zs_ne _ _ _ (by omega)])⟩)
    · exact E dX3_carryOutOne_118 (by decide) (z_nb (Or.inl rfl)) (Or.inr ⟨rfl, (by omega), hp3.2⟩)
  by_cases e2_1 : (tx p) = 108
  · refine z_tabIn C dX3_carryOutOne_6 (by omega) 1 (by omega) (by omega) (off := 66) (tgt := 72) rfl (by decide) ?_
    have hs2 := sSta_1 hs (by unfold zFm; repeat (first | rw [if_pos (by omega)] | rw [if_neg (by omega)]))
    have hib := zIx_b (i := 0) (by omega) (tx (p + 1))
    refine z_aload_n C dX3_carryOutOne_72 1 rfl ?_
    refine z_iconst C dX3_carryOutOne_73 ?_
    refine z_aload_n C dX3_carryOutOne_74 0 rfl ?_
    refine z_iload_n C dX3_carryOutOne_75 2 rfl ?_
    refine z_iconst C dX3_carryOutOne_76 ?_
    refine z_iadd C dX3_carryOutOne_77 ?_
    refine z_callVi C (c_X3_kindAt (zl X) μ tx n hx (p + 1) (by omega)) yyX3_kindAt mlX3_63 (zRc_of (i := 16) C (by decide) rfl rfl) dX3_carryOutOne_78 rfl rfl (Nat.le_of_ble_eq_true rfl) (by decide) (fun r4 m4 hr4 hp4 => ?_)
    obtain ⟨rfl, hp4⟩ := hp4
    rw [hp4]
    refine z_aload_n C dX3_carryOutOne_81 0 rfl ?_
    refine z_iload_n C dX3_carryOutOne_82 2 rfl ?_
    refine z_iconst C dX3_carryOutOne_83 ?_
    refine z_iadd C dX3_carryOutOne_84 ?_
    refine z_callVi C (c_X3_digitAt (zl X) μ tx n hx (p + 2) (by omega)) yyX3_digitAt mlX3_66 (zRc_of (i := 16) C (by decide) rfl rfl) dX3_carryOutOne_85 rfl rfl (Nat.le_of_ble_eq_true rfl) (by decide) (fun r5 m5 hr5 hp5 => ?_)
    obtain ⟨rfl, hp5⟩ := hp5
    rw [hp5]
    refine z_callVi C (c_X4_addPerson (zl X) μ t ht v hv ho 0 (zIx 0 (tx (p + 1))) (tx (p + 2) - 48) (by omega) (by omega) (by omega)) yyX4_addPerson mlX3_69 (zRc_of (i := t) C (by have := zto_lt ht; omega) (zd_to0 ht) rfl) dX3_carryOutOne_88 rfl rfl (Nat.le_of_ble_eq_true rfl) (by decide) (fun r6 m6 hr6 hp6 => ?_)
    rcases hp6 with ⟨rfl, hp6⟩ | ⟨rfl, hp6⟩
    · exact E dX3_carryOutOne_91 (by decide) (z_nb (Or.inr rfl)) (Or.inl ⟨rfl, (by omega), (by rw [show sDo tx p v = vAdd v 0 (zIx 0 (tx (p + 1))) (tx (p + 2) - 48) by unfold sDo; repeat (first | rw [if_pos (by omega)] | rw [if_neg (by omega)])]; exact hp6.2.1), hp6.2.2⟩)
    · exact E dX3_carryOutOne_91 (by decide) (z_nb (Or.inl rfl)) (Or.inr ⟨rfl, (by omega), hp6.2.symm⟩)
  by_cases e2_2 : (tx p) = 109
  · refine z_tabIn C dX3_carryOutOne_6 (by omega) 2 (by omega) (by omega) (off := 127) (tgt := 133) rfl (by decide) ?_
    refine z_iconst C dX3_carryOutOne_133 ?_
    exact E dX3_carryOutOne_134 (by decide) (z_nb (Or.inl rfl)) (Or.inr ⟨rfl, (by omega), rfl⟩)
  by_cases e2_3 : (tx p) = 110
  · refine z_tabIn C dX3_carryOutOne_6 (by omega) 3 (by omega) (by omega) (off := 127) (tgt := 133) rfl (by decide) ?_
    refine z_iconst C dX3_carryOutOne_133 ?_
    exact E dX3_carryOutOne_134 (by decide) (z_nb (Or.inl rfl)) (Or.inr ⟨rfl, (by omega), rfl⟩)
  by_cases e2_4 : (tx p) = 111
  · refine z_tabIn C dX3_carryOutOne_6 (by omega) 4 (by omega) (by omega) (off := 113) (tgt := 119) rfl (by decide) ?_
    have hf : zFm (tx p) = 3 := by unfold zFm; repeat (first | rw [if_pos (by omega)] | rw [if_neg (by omega)])
    have hs2 := sSta_3 hs hf
    refine z_aload_n C dX3_carryOutOne_119 0 rfl ?_
    refine z_aload_n C dX3_carryOutOne_120 1 rfl ?_
    refine z_iload_n C dX3_carryOutOne_121 2 rfl ?_
    refine z_callVi C (c_X3_setOrder (zl X) μ t ht v hv ho tx n hx p hp0 hs hf) yyX3_setOrder mlX3_78 (zRc_of (i := 16) C (by decide) rfl rfl) dX3_carryOutOne_122 rfl rfl (Nat.le_of_ble_eq_true rfl) (by decide) (fun r7 m7 hr7 hp7 => ?_)
    rcases hp7 with ⟨rfl, hp7⟩ | ⟨rfl, hp7⟩
    · exact E dX3_carryOutOne_125 (by decide) (z_nb (Or.inr rfl)) (Or.inl ⟨rfl, (by omega), (by rw [show sDo tx p v = vOrd v (tx (p + 1) - 48) (tx (p + 2) - 48) by unfold sDo; repeat (first | rw [if_pos (by omega)] | rw [if_neg (by omega)])]; rw [hp7.2]; exact zT_ord hv), (fun a ha => by rw [hp7.2, zs_ne _ _ _ (by omega), zs_ne _ _ _ (by omega)])⟩)
    · exact E dX3_carryOutOne_125 (by decide) (z_nb (Or.inl rfl)) (Or.inr ⟨rfl, (by omega), hp7.2⟩)
  by_cases e2_5 : (tx p) = 112
  · refine z_tabIn C dX3_carryOutOne_6 (by omega) 5 (by omega) (by omega) (off := 127) (tgt := 133) rfl (by decide) ?_
    refine z_iconst C dX3_carryOutOne_133 ?_
    exact E dX3_carryOutOne_134 (by decide) (z_nb (Or.inl rfl)) (Or.inr ⟨rfl, (by omega), rfl⟩)
  by_cases e2_6 : (tx p) = 113
  · refine z_tabIn C dX3_carryOutOne_6 (by omega) 6 (by omega) (by omega) (off := 127) (tgt := 133) rfl (by decide) ?_
    refine z_iconst C dX3_carryOutOne_133 ?_
    exact E dX3_carryOutOne_134 (by decide) (z_nb (Or.inl rfl)) (Or.inr ⟨rfl, (by omega), rfl⟩)
  by_cases e2_7 : (tx p) = 114
  · refine z_tabIn C dX3_carryOutOne_6 (by omega) 7 (by omega) (by omega) (off := 86) (tgt := 92) rfl (by decide) ?_
    have hs2 := sSta_1 hs (by unfold zFm; repeat (first | rw [if_pos (by omega)] | rw [if_neg (by omega)]))
    have hib := zIx_b (i := 0) (by omega) (tx (p + 1))
    refine z_aload_n C dX3_carryOutOne_92 1 rfl ?_
    refine z_iconst C dX3_carryOutOne_93 ?_
    refine z_aload_n C dX3_carryOutOne_94 0 rfl ?_
    refine z_iload_n C dX3_carryOutOne_95 2 rfl ?_
    refine z_iconst C dX3_carryOutOne_96 ?_
    refine z_iadd C dX3_carryOutOne_97 ?_
    refine z_callVi C (c_X3_kindAt (zl X) μ tx n hx (p + 1) (by omega)) yyX3_kindAt mlX3_63 (zRc_of (i := 16) C (by decide) rfl rfl) dX3_carryOutOne_98 rfl rfl (Nat.le_of_ble_eq_true rfl) (by decide) (fun r8 m8 hr8 hp8 => ?_)
    obtain ⟨rfl, hp8⟩ := hp8
    rw [hp8]
    refine z_aload_n C dX3_carryOutOne_101 0 rfl ?_
    refine z_iload_n C dX3_carryOutOne_102 2 rfl ?_
    refine z_iconst C dX3_carryOutOne_103 ?_
    refine z_iadd C dX3_carryOutOne_104 ?_
    refine z_callVi C (c_X3_digitAt (zl X) μ tx n hx (p + 2) (by omega)) yyX3_digitAt mlX3_66 (zRc_of (i := 16) C (by decide) rfl rfl) dX3_carryOutOne_105 rfl rfl (Nat.le_of_ble_eq_true rfl) (by decide) (fun r9 m9 hr9 hp9 => ?_)
    obtain ⟨rfl, hp9⟩ := hp9
    rw [hp9]
    refine z_callVi C (c_X4_addPerson (zl X) μ t ht v hv ho 1 (zIx 0 (tx (p + 1))) (tx (p + 2) - 48) (by omega) (by omega) (by omega)) yyX4_addPerson mlX3_69 (zRc_of (i := t) C (by have := zto_lt ht; omega) (zd_to0 ht) rfl) dX3_carryOutOne_108 rfl rfl (Nat.le_of_ble_eq_true rfl) (by decide) (fun r10 m10 hr10 hp10 => ?_)
    rcases hp10 with ⟨rfl, hp10⟩ | ⟨rfl, hp10⟩
    · exact E dX3_carryOutOne_111 (by decide) (z_nb (Or.inr rfl)) (Or.inl ⟨rfl, (by omega), (by rw [show sDo tx p v = vAdd v 1 (zIx 0 (tx (p + 1))) (tx (p + 2) - 48) by unfold sDo; repeat (first | rw [if_pos (by omega)] | rw [if_neg (by omega)])]; exact hp10.2.1), hp10.2.2⟩)
    · exact E dX3_carryOutOne_111 (by decide) (z_nb (Or.inl rfl)) (Or.inr ⟨rfl, (by omega), hp10.2.symm⟩)
  by_cases e2_8 : (tx p) = 115
  · refine z_tabIn C dX3_carryOutOne_6 (by omega) 8 (by omega) (by omega) (off := 127) (tgt := 133) rfl (by decide) ?_
    refine z_iconst C dX3_carryOutOne_133 ?_
    exact E dX3_carryOutOne_134 (by decide) (z_nb (Or.inl rfl)) (Or.inr ⟨rfl, (by omega), rfl⟩)
  by_cases e2_9 : (tx p) = 116
  · refine z_tabIn C dX3_carryOutOne_6 (by omega) 9 (by omega) (by omega) (off := 127) (tgt := 133) rfl (by decide) ?_
    refine z_iconst C dX3_carryOutOne_133 ?_
    exact E dX3_carryOutOne_134 (by decide) (z_nb (Or.inl rfl)) (Or.inr ⟨rfl, (by omega), rfl⟩)
  by_cases e2_10 : (tx p) = 117
  · refine z_tabIn C dX3_carryOutOne_6 (by omega) 10 (by omega) (by omega) (off := 127) (tgt := 133) rfl (by decide) ?_
    refine z_iconst C dX3_carryOutOne_133 ?_
    exact E dX3_carryOutOne_134 (by decide) (z_nb (Or.inl rfl)) (Or.inr ⟨rfl, (by omega), rfl⟩)
  by_cases e2_11 : (tx p) = 118
  · refine z_tabIn C dX3_carryOutOne_6 (by omega) 11 (by omega) (by omega) (off := 127) (tgt := 133) rfl (by decide) ?_
    refine z_iconst C dX3_carryOutOne_133 ?_
    exact E dX3_carryOutOne_134 (by decide) (z_nb (Or.inl rfl)) (Or.inr ⟨rfl, (by omega), rfl⟩)
  by_cases e2_12 : (tx p) = 119
  · refine z_tabIn C dX3_carryOutOne_6 (by omega) 12 (by omega) (by omega) (off := 120) (tgt := 126) rfl (by decide) ?_
    have hf : zFm (tx p) = 4 := by unfold zFm; repeat (first | rw [if_pos (by omega)] | rw [if_neg (by omega)])
    have hs2 := sSta_4 hs hf
    refine z_aload_n C dX3_carryOutOne_126 0 rfl ?_
    refine z_aload_n C dX3_carryOutOne_127 1 rfl ?_
    refine z_iload_n C dX3_carryOutOne_128 2 rfl ?_
    refine z_callVi C (c_X3_setLaw (zl X) μ t ht v hv ho tx n hx p hp0 hs hf) yyX3_setLaw mlX3_81 (zRc_of (i := 16) C (by decide) rfl rfl) dX3_carryOutOne_129 rfl rfl (Nat.le_of_ble_eq_true rfl) (by decide) (fun r11 m11 hr11 hp11 => ?_)
    rcases hp11 with ⟨rfl, hp11⟩ | ⟨rfl, hp11⟩
    · exact E dX3_carryOutOne_132 (by decide) (z_nb (Or.inr rfl)) (Or.inl ⟨rfl, (by omega), (by rw [show sDo tx p v = vLaw v (tx (p + 1) - 48) by unfold sDo; repeat (first | rw [if_pos (by omega)] | rw [if_neg (by omega)])]; rw [hp11.2]; exact zT_law hv), (fun a ha => by rw [hp11.2, zs_ne _ _ _ (by omega)])⟩)
    · exact E dX3_carryOutOne_132 (by decide) (z_nb (Or.inl rfl)) (Or.inr ⟨rfl, (by omega), hp11.2⟩)
  refine z_tabOut C dX3_carryOutOne_6 (by omega) (by omega) (tgt := 133) (by decide) ?_
  refine z_iconst C dX3_carryOutOne_133 ?_
  exact E dX3_carryOutOne_134 (by decide) (z_nb (Or.inl rfl)) (Or.inr ⟨rfl, (by omega), rfl⟩)
set_option maxHeartbeats 4000000 in
theorem c_X3_carryOut (l : Launch) (μ : zM) (t : Nat) (ht : zTo t) (v : zVw) (hv : zT μ t v) (ho : vOK v) (tx : Int → Int) (n : Int) (hx : zLt μ tx n) (hb : (sTxt tx n n.toNat 0).1 = true) : zMi l yX3_carryOut cX3_carryOut 3 (.int) 6 134 [.inr 16, .inr t] μ (fun (r : Int) (m : zM) => r = (sCar tx n n.toNat 0 v).1 ∧ zT m t (sCar tx n n.toNat 0 v).2 ∧ vOK (sCar tx n n.toNat 0 v).2 ∧ ∀ a, (a < t ∨ t + 5 ≤ a) → m a = μ a) := by
  refine zMi_of (own := RX3) (by decide +kernel) rfl (Nat.le_of_ble_eq_true rfl) ?_
  intro X hX C hrm E
  subst hX
  show zJ X 3 μ 0 [(0, .inr 16), (1, .inr t)] []
  obtain ⟨x1, x2, x3⟩ := id hx
  refine z_iconst C dX3_carryOut_0 ?_
  refine z_istore_n C dX3_carryOut_1 (by decide) (L' := [(0, _), (1, _), (2, _)]) rfl ?_
  have LP2 : ∀ (N2 : Nat) (p : Int) (k : Int) (w : zVw) (ma : zM), (0 ≤ p) → (p ≤ n) → (0 ≤ k) → (k ≤ p) → ((sTxt tx n (n - k).toNat p).1 = true) → (sCar tx n n.toNat 0 v = sCar tx n (n - k).toNat p w) → (zT ma t w) → (vOK w) → (∀ a, (a < t ∨ t + 5 ≤ a) → ma a = μ a) → (96 - p).toNat < N2 → zJ X 3 ma 2 [(0, .inr 16), (1, .inr t), (2, .inl p)] [] := by
    intro N2
    induction N2 with
    | zero => intro p k w ma h2_0 h2_1 h2_2 h2_3 h2_4 h2_5 h2_6 h2_7 h2_8 hN; exact absurd hN (Nat.not_lt_zero _)
    | succ N2 ih2 =>
      intro p k w ma h2_0 h2_1 h2_2 h2_3 h2_4 h2_5 h2_6 h2_7 h2_8 hN2
      refine z_iload_n C dX3_carryOut_2 2 rfl ?_
      refine z_aload_n C dX3_carryOut_3 0 rfl ?_
      refine z_getI C ffX3_15 dX3_carryOut_4 (by decide) rfl rfl 1 rfl (fun hr1 => ?_)
      rw [show ma 16 1 = n by rw [h2_8 16 (by omega)]; exact x1]
      refine z_icmp_ge C dX3_carryOut_7 (tgt := 41) (by decide) (by omega) (by omega) (fun c2 => ?_) (fun c2 => ?_)
      · refine z_bipush C dX3_carryOut_41 (by decide) ?_
        exact E dX3_carryOut_43 (by decide) rfl ⟨(by rw [h2_5, sCar_end (by omega)]), (by rw [h2_5, sCar_end (by omega)]; exact h2_6), (by rw [h2_5, sCar_end (by omega)]; exact h2_7), h2_8⟩
      · have hs1 := sTxt_1 (by omega) (by omega) h2_4
        have hso := sSta_ok hs1.1
        have hsn : (sSta tx n p).2 = p + (1 + zLn (zFm (tx p))) := by omega
        have hfl := zFm_lt (tx p)
        have hlb := zLn_b (zFm (tx p)) hfl
        refine z_aload_n C dX3_carryOut_10 0 rfl ?_
        refine z_aload_n C dX3_carryOut_11 1 rfl ?_
        refine z_iload_n C dX3_carryOut_12 2 rfl ?_
        refine z_callVi C (c_X3_carryOutOne (zl X) ma t ht w h2_6 h2_7 tx n (zLt_fr hx (h2_8 16 (by omega)) (h2_8 17 (by omega))) p (by omega) hs1.1) yyX3_carryOutOne mlX3_59 (zRc_of (i := 16) C (by decide) rfl rfl) dX3_carryOut_13 rfl rfl (Nat.le_of_ble_eq_true rfl) (by decide) (fun r3 m3 hr3 hp3 => ?_)
        rcases hp3 with ⟨rfl, hp3⟩ | ⟨rfl, hp3⟩
        · refine z_if_ne C dX3_carryOut_16 (tgt := 21) (by decide) (by decide) (fun _ => ?_) (fun c4 => (by exfalso; omega))
          have hg := hp3
          refine z_iload_n C dX3_carryOut_21 2 rfl ?_
          refine z_iconst C dX3_carryOut_22 ?_
          refine z_aload_n C dX3_carryOut_23 0 rfl ?_
          refine z_getR C ffX3_11 dX3_carryOut_24 (by decide) rfl rfl ?_
          refine z_iload_n C dX3_carryOut_27 2 rfl ?_
          refine z_iald C dX3_carryOut_28 (by decide) rfl (by omega) (by decide) (fun hr5 => ?_)
          rw [show m3 17 p = tx p by rw [hp3.2.2 17 (by omega), h2_8 17 (by omega)]; exact (x3 p (by omega) (by omega)).1]
          have hq := (x3 p (by omega) (by omega)).2
          refine z_callSr C (c_X3_formBehind (zl X) m3 (tx p) (by omega)) yyX3_formBehind mlX3_23 dX3_carryOut_29 rfl rfl (Nat.le_of_ble_eq_true rfl) (by decide) (fun r6 m6 hp6 => ?_)
          obtain ⟨rfl, hp6⟩ := hp6
          subst hp6
          refine z_callVi C (c_J0_length_8abf5 (zl X) m3 (zFm (tx p)) (zFm_lt _)) yyJ0_length_8abf5 mlX3_32 (zRc_str C (zFm_lt _)) dX3_carryOut_32 rfl rfl (Nat.le_of_ble_eq_true rfl) (by decide) (fun r7 m7 hr7 hp7 => ?_)
          obtain ⟨rfl, hp7⟩ := hp7
          rw [hp7]
          refine z_iadd C dX3_carryOut_35 ?_
          refine z_iadd C dX3_carryOut_36 ?_
          refine z_istore_n C dX3_carryOut_37 (by decide) (L' := [(0, _), (1, _), (2, _)]) rfl ?_
          refine z_goto C dX3_carryOut_38 (tgt := 2) (by decide) ?_
          exact ih2 _ (k + 1) (sDo tx p w) m3 (by omega) (by rw [← hsn]; omega) (by omega) (by omega) (by rw [← hsn]; exact hs1.2) (by rw [h2_5, sCar_s tx n p w (by omega), if_pos (by omega), if_pos (sGdb_t hg.1), hsn]) hg.2.1 (sDo_ok h2_7 hs1.1 hg.1) (fun a ha => (hg.2.2 a ha).trans (h2_8 a ha)) (by omega)
        · refine z_if_ne C dX3_carryOut_16 (tgt := 21) (by decide) (by decide) (fun c8 => (by exfalso; omega)) (fun _ => ?_)
          refine z_iload_n C dX3_carryOut_19 2 rfl ?_
          exact E dX3_carryOut_20 (by omega) rfl ⟨(by rw [h2_5, sCar_s tx n p w (by omega), if_pos (by omega), if_neg (by rw [sGdb_f hp3.1]; intro q; cases q)]), (by rw [h2_5, sCar_s tx n p w (by omega), if_pos (by omega), if_neg (by rw [sGdb_f hp3.1]; intro q; cases q), hp3.2]; exact h2_6), (by rw [h2_5, sCar_s tx n p w (by omega), if_pos (by omega), if_neg (by rw [sGdb_f hp3.1]; intro q; cases q)]; exact h2_7), (by rw [hp3.2]; exact h2_8)⟩
  exact LP2 _ 0 0 v μ (by omega) (by omega) (by omega) (by omega) (by rw [Int.sub_zero]; exact hb) (by rw [Int.sub_zero]) hv ho (fun _ _ => rfl) (Nat.lt_succ_self _)
