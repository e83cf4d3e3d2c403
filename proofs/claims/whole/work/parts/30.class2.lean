/-! contracts: EightMinutes, the rest -/
theorem sBeH_b {v : zVw} {st : Int} (hst : 1 ≤ st ∧ st ≤ 4) {x : Int × Int} (hx : (x.1 = -9 ∨ (10 ≤ x.1 ∧ x.1 ≤ 44)) ∧ 0 ≤ x.2 ∧ x.2 ≤ 50) : ∀ k : Nat, k ≤ 5 → ((sBeH v st k x).1 = -9 ∨ (10 ≤ (sBeH v st k x).1 ∧ (sBeH v st k x).1 ≤ 44)) ∧ 0 ≤ (sBeH v st k x).2 ∧ (sBeH v st k x).2 ≤ 50
  | 0, _ => hx
  | k + 1, hk => by
    have ih := sBeH_b (v := v) hst hx k (by omega)
    have hb := sSh_b (vOrd v st (k : Int)) 10
    rw [sBeH]
    split
    · show ((10 * st + (k : Int) = -9 ∨ (10 ≤ 10 * st + (k : Int) ∧ 10 * st + (k : Int) ≤ 44)) ∧ 0 ≤ sSh (vOrd v st (k : Int)) 10 ∧ sSh (vOrd v st (k : Int)) 10 ≤ 50)
      omega
    · exact ih
theorem sBeS_b (v : zVw) : ∀ k : Nat, k ≤ 4 → ((sBeS v k).1 = -9 ∨ (10 ≤ (sBeS v k).1 ∧ (sBeS v k).1 ≤ 44)) ∧ 0 ≤ (sBeS v k).2 ∧ (sBeS v k).2 ≤ 50
  | 0, _ => ⟨Or.inl rfl, by show (0 : Int) ≤ 0 ∧ (0 : Int) ≤ 50; omega⟩
  | k + 1, hk => by
    rw [sBeS]
    exact sBeH_b (by omega) (sBeS_b v k (by omega)) 5 (by omega)
theorem sFirm_b {v : zVw} (ho : vOK v) : 0 ≤ sFirm v ∧ sFirm v ≤ 3125 := by
  have h1 := vC_b ho (1 - sSd v)
  have h2 := vC_b ho (sSd v)
  have h3 := zPow_5 h1 (n := (vC v (sSd v)).toNat) (by omega)
  have h4 := zSum_b (f := sFi v (sSd v)) (c := 1) (zPow (vC v (1 - sSd v)) (vC v (sSd v)).toNat).toNat (fun x _ _ => by unfold sFi; split <;> omega)
  unfold sFirm
  omega
theorem sFwR_b (v : zVw) (h : Int → Int) (l : Int) : ∀ (f : Nat) (b : Int), 0 ≤ b → sFwR v h l f b = -9 ∨ (10 * l + b ≤ sFwR v h l f b ∧ sFwR v h l f b < 10 * l + b + (f : Int))
  | 0, b, _ => Or.inl rfl
  | f + 1, b, hb => by
    rw [sFwR]
    split
    · right; omega
    · have := sFwR_b v h l f (b + 1) (by omega)
      omega
theorem sFwL_b {v : zVw} (ho : vOK v) (h : Int → Int) : ∀ (f : Nat) (a : Int), 0 ≤ a → sFwL v h f a = -9 ∨ (0 ≤ sFwL v h f a ∧ sFwL v h f a < 10 * (a + (f : Int)))
  | 0, a, _ => Or.inl rfl
  | f + 1, a, ha => by
    have h1 := sFwL_b ho h f (a + 1) (by omega)
    have h2 := sFwR_b v h a (vR v).toNat 0 (by omega)
    obtain ⟨-, o2, -⟩ := ho
    rw [sFwL]
    split <;> omega
theorem sFw_b {v : zVw} (ho : vOK v) (h : Int → Int) : -9 ≤ sFw v h ∧ sFw v h ≤ 50 := by
  have h1 := sFwL_b ho h (vL v).toNat 0 (by omega)
  obtain ⟨o1, -⟩ := ho
  unfold sFw
  omega
theorem zHs_give {m : zM} {h : Int → Int} (hh : zHs m h) {a b : Int} : zHs (zs (zs m 28 a b) 28 b a) (fun x => if x = b then a else if x = a then b else h x) := by
  intro p p0 p1
  rw [zs_at]
  show _ = if p = b then a else if p = a then b else h p
  by_cases e1 : p = b
  · rw [if_pos e1, if_pos e1]
  · rw [if_neg e1, if_neg e1, zs_at]
    by_cases e2 : p = a
    · rw [if_pos e2, if_pos e2]
    · rw [if_neg e2, if_neg e2]; exact hh p p0 p1
theorem vLike_id (v : zVw) (a b : Int) : vLike v a b (vA v a b) = v := by
  obtain ⟨l, r, s, h, w, k, bb, f⟩ := v
  have e : (fun x y => if x = a ∧ y = b then f a b else f x y) = f := by
    funext x y
    split
    · rename_i e; rw [e.1, e.2]
    · rfl
  show (l, r, s, h, w, k, bb, fun x y => if x = a ∧ y = b then f a b else f x y) = _
  rw [e]
theorem vLike_2 (v : zVw) (a b c z : Int) : vLike (vLike v a b c) a b z = vLike v a b z := by
  obtain ⟨l, r, s, h, w, k, bb, f⟩ := v
  have e : (fun x y => if x = a ∧ y = b then z else if x = a ∧ y = b then c else f x y) = fun x y => if x = a ∧ y = b then z else f x y := by
    funext x y
    split <;> rfl
  show (l, r, s, h, w, k, bb, fun x y => if x = a ∧ y = b then z else if x = a ∧ y = b then c else f x y) = _
  rw [e]
  rfl
theorem zor_z : ∀ y : Int, 0 ≤ y → y < 1024 → ∀ z : Int, 0 ≤ z → z < 10 → 0 ≤ zor y (zshl 1 z) ∧ zor y (zshl 1 z) < 1024 := by
  have key : ((List.range 1024).all fun i => (List.range 10).all fun j => decide (0 ≤ zor (i : Int) (zshl 1 (j : Int)) ∧ zor (i : Int) (zshl 1 (j : Int)) < 1024)) = true := by decide +kernel
  intro y h1 h2 z h3 h4
  have h5 := List.all_eq_true.mp key y.toNat (List.mem_range.mpr (by omega))
  have h6 := List.all_eq_true.mp h5 z.toNat (List.mem_range.mpr (by omega))
  rw [Int.toNat_of_nonneg h1, Int.toNat_of_nonneg h3] at h6
  exact of_decide_eq_true h6
theorem sTrN_b (v : zVw) (a b : Int) : ∀ z : Nat, z ≤ 10 → 0 ≤ sTrN v a b z ∧ sTrN v a b z < 1024
  | 0, _ => by show (0 : Int) ≤ 0 ∧ (0 : Int) < 1024; omega
  | z + 1, h => by
    have ih := sTrN_b v a b z (by omega)
    rw [sTrN]
    split
    · exact zor_z _ ih.1 ih.2 z (by omega) (by omega)
    · exact ih
set_option maxHeartbeats 4000000 in
theorem c_X5_bestOrder (l : Launch) (μ : zM) (s : zS) (hs : zCl μ s) (hso : sOK s) : zMi l yX5_bestOrder cX5_bestOrder 6 (.int) 5 120 [.inr 0] μ (fun (r : Int) (m : zM) => r = (tBest s).1 ∧ zCl m (tBest s).2 ∧ ∀ a, 31 ≤ a → a < 48 → m a = μ a) := by
  refine zMi_of (own := RX5) (by decide +kernel) rfl (Nat.le_of_ble_eq_true rfl) ?_
  intro X hX C hrm E
  subst hX
  show zJ X 6 μ 0 [(0, .inr 0)] []
  obtain ⟨hv, hk, hi, hl, hm, hw, hf⟩ := id hs
  obtain ⟨ho, hok, hoi, hon, hot, hom, how⟩ := id hso
  generalize hgv : gV s = v at hv ho
  obtain ⟨hv1, hv2, hv3, hv4, hv5, hv6, hv7⟩ := id hv
  obtain ⟨ho1, ho2, ho3, ho4, ho5, ho6, ho7⟩ := id ho
  have hN := vN_ok ho
  refine z_aload_n C dX5_bestOrder_0 0 rfl ?_
  refine z_getR C ffX5_16 dX5_bestOrder_1 (by decide) rfl rfl ?_
  refine z_aload_n C dX5_bestOrder_4 0 rfl ?_
  refine z_getR C ffX5_10 dX5_bestOrder_5 (by decide) rfl rfl ?_
  refine z_callVv C (c_X4_become (zl X) μ 6 1 (Or.inr (Or.inl rfl)) (Or.inl rfl) (by decide) v hv) yyX4_become mlX5_83 (zRc_of (i := 6) C (by decide) rfl rfl) dX5_bestOrder_8 rfl rfl (Nat.le_of_ble_eq_true rfl) (by decide) (fun m1 hp1 => ?_)
  refine z_bipush C dX5_bestOrder_11 (by decide) ?_
  refine z_istore_n C dX5_bestOrder_13 (by decide) (L' := [(0, _), (1, _)]) rfl ?_
  refine z_iconst C dX5_bestOrder_14 ?_
  refine z_istore_n C dX5_bestOrder_15 (by decide) (L' := [(0, _), (1, _), (2, _)]) rfl ?_
  refine z_iconst C dX5_bestOrder_16 ?_
  refine z_istore_n C dX5_bestOrder_17 (by decide) (L' := [(0, _), (1, _), (2, _), (3, _)]) rfl ?_
  have LP18 : ∀ (N18 : Nat) (best : Int) (least : Int) (st : Int) (a : Int) (b : Int) (ma : zM), (1 ≤ st) → (st ≤ 5) → (best = (sBeS v (st - 1).toNat).1) → (least = (sBeS v (st - 1).toNat).2) → (zT ma 6 (vOrd v a b)) → (∀ x, (x < 6 ∨ (11 ≤ x ∧ x < 18) ∨ (29 ≤ x ∧ x < 48)) → ma x = μ x) → (6 - st).toNat < N18 → zJ X 6 ma 18 [(0, .inr 0), (1, .inl best), (2, .inl least), (3, .inl st)] [] := by
    intro N18
    induction N18 with
    | zero => intro best least st a b ma h18_0 h18_1 h18_2 h18_3 h18_4 h18_5 hN; exact absurd hN (Nat.not_lt_zero _)
    | succ N18 ih18 =>
      intro best least st a b ma h18_0 h18_1 h18_2 h18_3 h18_4 h18_5 hN18
      have hBb := sBeS_b v (st - 1).toNat (by omega)
      refine z_iload_n C dX5_bestOrder_18 3 rfl ?_
      refine z_iconst C dX5_bestOrder_19 ?_
      refine z_icmp_gt C dX5_bestOrder_20 (tgt := 131) (by decide) (by omega) (by decide) (fun c2 => ?_) (fun c2 => ?_)
      · refine z_iload_n C dX5_bestOrder_131 1 rfl ?_
        exact E dX5_bestOrder_132 (by omega) rfl (t_fin (P := zCl) (show tBest s = (best, s) by unfold tBest; (first | rw [hgv] | skip); rw [h18_2, show (st - 1).toNat = 4 by omega]) (zCl_fr hs (fun x _ => h18_5 x (by omega))) (fun a _ _ => h18_5 a (by omega)))
      · refine z_iconst C dX5_bestOrder_23 ?_
        refine z_istore C dX5_bestOrder_24 (by decide) (L' := [(0, _), (1, _), (2, _), (3, _), (4, _)]) rfl ?_
        have LP26 : ∀ (N26 : Nat) (best2 : Int) (least2 : Int) (sh : Int) (c : Int) (d : Int) (mb : zM), (0 ≤ sh) → (sh ≤ 5) → (best2 = (sBeH v st sh.toNat (sBeS v (st - 1).toNat)).1) → (least2 = (sBeH v st sh.toNat (sBeS v (st - 1).toNat)).2) → (zT mb 6 (vOrd v c d)) → (∀ x, (x < 6 ∨ (11 ≤ x ∧ x < 18) ∨ (29 ≤ x ∧ x < 48)) → mb x = μ x) → (6 - sh).toNat < N26 → zJ X 6 mb 26 [(0, .inr 0), (1, .inl best2), (2, .inl least2), (3, .inl st), (4, .inl sh)] [] := by
          intro N26
          induction N26 with
          | zero => intro best2 least2 sh c d mb h26_0 h26_1 h26_2 h26_3 h26_4 h26_5 hN; exact absurd hN (Nat.not_lt_zero _)
          | succ N26 ih26 =>
            intro best2 least2 sh c d mb h26_0 h26_1 h26_2 h26_3 h26_4 h26_5 hN26
            have hCb := sBeH_b (v := v) (st := st) (by omega) hBb sh.toNat (by omega)
            refine z_iload C dX5_bestOrder_26 4 rfl ?_
            refine z_iconst C dX5_bestOrder_28 ?_
            refine z_icmp_gt C dX5_bestOrder_29 (tgt := 125) (by decide) (by omega) (by decide) (fun c3 => ?_) (fun c3 => ?_)
            · refine z_iinc C dX5_bestOrder_125 3 rfl (by decide) (L' := [(0, _), (1, _), (2, _), (3, _), (4, _)]) rfl ?_
              refine z_goto C dX5_bestOrder_128 (tgt := 18) (by decide) ?_
              refine z_sub [0, 1, 2, 3] rfl ?_; exact ih18 _ _ _ c d mb (by omega) (by omega) (by rw [show (st + 1 - 1).toNat = (st - 1 + 1).toNat by omega, sBeS_s v (by omega), show st - 1 + 1 = st by omega, h26_2, show sh.toNat = 5 by omega]) (by rw [show (st + 1 - 1).toNat = (st - 1 + 1).toNat by omega, sBeS_s v (by omega), show st - 1 + 1 = st by omega, h26_3, show sh.toNat = 5 by omega]) h26_4 h26_5 (by omega)
            · refine z_aload_n C dX5_bestOrder_32 0 rfl ?_
              refine z_getR C ffX5_16 dX5_bestOrder_33 (by decide) rfl rfl ?_
              refine z_iload_n C dX5_bestOrder_36 3 rfl ?_
              refine z_putI C ffX5_122 fp4_4 dX5_bestOrder_37 (by decide) rfl rfl 4 rfl (by omega) ?_
              refine z_mem (fun m4 em4 => ?_)
              refine z_aload_n C dX5_bestOrder_40 0 rfl ?_
              refine z_getR C ffX5_16 dX5_bestOrder_41 (by decide) rfl rfl ?_
              refine z_iload C dX5_bestOrder_44 4 rfl ?_
              refine z_putI C ffX5_125 fp4_5 dX5_bestOrder_46 (by decide) rfl rfl 5 rfl (by omega) ?_
              refine z_mem (fun m5 em5 => ?_)
              have hO : vOK (vOrd v st sh) := vOrd_ok ho (by omega) (by omega)
              have hT6 : zT m5 6 (vOrd v st sh) := by rw [em5, em4]; exact zT_ord h26_4
              refine z_aload_n C dX5_bestOrder_49 0 rfl ?_
              refine z_getR C ffX5_36 dX5_bestOrder_50 (by decide) rfl rfl ?_
              refine z_aload_n C dX5_bestOrder_53 0 rfl ?_
              refine z_getR C ffX5_16 dX5_bestOrder_54 (by decide) rfl rfl ?_
              refine z_callVv C (c_X2_hold (zl X) m5 6 (Or.inr (Or.inl rfl)) (vOrd v st sh) hT6 hO) yyX2_hold mlX5_104 (zRc_of (i := 18) C (by decide) rfl rfl) dX5_bestOrder_57 rfl rfl (Nat.le_of_ble_eq_true rfl) (by decide) (fun m6 hp6 => ?_)
              have hsh := hp6.1.2.1
              have hsb := sSh_b (vOrd v st sh) 10
              refine z_iload_n C dX5_bestOrder_60 1 rfl ?_
              refine z_bipush C dX5_bestOrder_61 (by decide) ?_
              refine z_icmp_eq C dX5_bestOrder_63 (tgt := 77) (by decide) (by omega) (by decide) (fun c7 => ?_) (fun c7 => ?_)
              · refine z_iconst C dX5_bestOrder_77 ?_
                refine z_goto C dX5_bestOrder_78 (tgt := 82) (by decide) ?_
                refine z_istore C dX5_bestOrder_82 (by decide) (L' := [(0, _), (1, _), (2, _), (3, _), (4, _), (5, _)]) rfl ?_
                refine z_iload C dX5_bestOrder_84 5 rfl ?_
                refine z_if_eq C dX5_bestOrder_86 (tgt := 119) (by decide) (by decide) (fun c8 => (by exfalso; omega)) (fun _ => ?_)
                refine z_aload_n C dX5_bestOrder_89 0 rfl ?_
                refine z_getR C ffX5_36 dX5_bestOrder_90 (by decide) rfl rfl ?_
                refine z_aload_n C dX5_bestOrder_93 0 rfl ?_
                refine z_getR C ffX5_16 dX5_bestOrder_94 (by decide) rfl rfl ?_
                refine z_callVi C (c_X2_letAllMeetAll (zl X) m6 6 (Or.inr (Or.inl rfl)) (vOrd v st sh) (zT_fr hT6 (fun x _ _ => hp6.2 x (by omega) (by omega) (by omega))) hO hp6.1) yyX2_letAllMeetAll mlX5_167 (zRc_of (i := 18) C (by decide) rfl rfl) dX5_bestOrder_97 rfl rfl (Nat.le_of_ble_eq_true rfl) (by decide) (fun r9 m9 hr9 hp9 => ?_)
                obtain ⟨rfl, hp9⟩ := hp9
                rcases hp9 with ⟨rfl, hp9⟩ | ⟨rfl, hp9⟩
                · refine z_if_eq C dX5_bestOrder_100 (tgt := 119) (by decide) (by decide) (fun c10 => (by exfalso; omega)) (fun _ => ?_)
                  refine z_aload_n C dX5_bestOrder_103 0 rfl ?_
                  refine z_getR C ffX5_36 dX5_bestOrder_104 (by decide) rfl rfl ?_
                  refine z_getI C ffX5_164 dX5_bestOrder_107 (by decide) rfl rfl 3 rfl (fun hr11 => ?_)
                  rw [hsh]
                  refine z_istore_n C dX5_bestOrder_110 (by decide) (L' := [(0, _), (1, _), (2, _), (3, _), (4, _), (5, _)]) rfl ?_
                  refine z_bipush C dX5_bestOrder_111 (by decide) ?_
                  refine z_iload_n C dX5_bestOrder_113 3 rfl ?_
                  refine z_imul C dX5_bestOrder_114 ?_
                  refine z_iload C dX5_bestOrder_115 4 rfl ?_
                  refine z_iadd C dX5_bestOrder_117 ?_
                  refine z_istore_n C dX5_bestOrder_118 (by decide) (L' := [(0, _), (1, _), (2, _), (3, _), (4, _), (5, _)]) rfl ?_
                  refine z_iinc C dX5_bestOrder_119 4 rfl (by decide) (L' := [(0, _), (1, _), (2, _), (3, _), (4, _), (5, _)]) rfl ?_
                  refine z_goto C dX5_bestOrder_122 (tgt := 26) (by decide) ?_
                  refine z_sub [0, 1, 2, 3, 4] rfl ?_; exact ih26 _ _ _ st sh m6 (by omega) (by omega) (by rw [sBeH_s v st (by omega), if_pos ⟨(by omega), (sAlB_t hO).2 hp9⟩]) (by rw [sBeH_s v st (by omega), if_pos ⟨(by omega), (sAlB_t hO).2 hp9⟩]) (zT_fr hT6 (fun x _ _ => hp6.2 x (by omega) (by omega) (by omega))) (fun x hx => by rw [hp6.2 x (by omega) (by omega) (by omega), em5, zs_ne _ _ _ (by omega), em4, zs_ne _ _ _ (by omega)]; exact h26_5 x hx) (by omega)
                · refine z_if_eq C dX5_bestOrder_100 (tgt := 119) (by decide) (by decide) (fun _ => ?_) (fun c12 => (by exfalso; omega))
                  refine z_iinc C dX5_bestOrder_119 4 rfl (by decide) (L' := [(0, _), (1, _), (2, _), (3, _), (4, _), (5, _)]) rfl ?_
                  refine z_goto C dX5_bestOrder_122 (tgt := 26) (by decide) ?_
                  refine z_sub [0, 1, 2, 3, 4] rfl ?_; exact ih26 _ _ _ st sh m6 (by omega) (by omega) (by rw [sBeH_s v st (by omega), if_neg (fun z => hp9 ((sAlB_t hO).1 z.2))]; exact h26_2) (by rw [sBeH_s v st (by omega), if_neg (fun z => hp9 ((sAlB_t hO).1 z.2))]; exact h26_3) (zT_fr hT6 (fun x _ _ => hp6.2 x (by omega) (by omega) (by omega))) (fun x hx => by rw [hp6.2 x (by omega) (by omega) (by omega), em5, zs_ne _ _ _ (by omega), em4, zs_ne _ _ _ (by omega)]; exact h26_5 x hx) (by omega)
              · refine z_aload_n C dX5_bestOrder_66 0 rfl ?_
                refine z_getR C ffX5_36 dX5_bestOrder_67 (by decide) rfl rfl ?_
                refine z_getI C ffX5_164 dX5_bestOrder_70 (by decide) rfl rfl 3 rfl (fun hr13 => ?_)
                rw [hsh]
                refine z_iload_n C dX5_bestOrder_73 2 rfl ?_
                refine z_icmp_ge C dX5_bestOrder_74 (tgt := 81) (by decide) (by omega) (by omega) (fun c14 => ?_) (fun c14 => ?_)
                · refine z_iconst C dX5_bestOrder_81 ?_
                  refine z_istore C dX5_bestOrder_82 (by decide) (L' := [(0, _), (1, _), (2, _), (3, _), (4, _), (5, _)]) rfl ?_
                  refine z_iload C dX5_bestOrder_84 5 rfl ?_
                  refine z_if_eq C dX5_bestOrder_86 (tgt := 119) (by decide) (by decide) (fun _ => ?_) (fun c15 => (by exfalso; omega))
                  refine z_iinc C dX5_bestOrder_119 4 rfl (by decide) (L' := [(0, _), (1, _), (2, _), (3, _), (4, _), (5, _)]) rfl ?_
                  refine z_goto C dX5_bestOrder_122 (tgt := 26) (by decide) ?_
                  refine z_sub [0, 1, 2, 3, 4] rfl ?_; exact ih26 _ _ _ st sh m6 (by omega) (by omega) (by rw [sBeH_s v st (by omega), if_neg (fun z => by omega)]; exact h26_2) (by rw [sBeH_s v st (by omega), if_neg (fun z => by omega)]; exact h26_3) (zT_fr hT6 (fun x _ _ => hp6.2 x (by omega) (by omega) (by omega))) (fun x hx => by rw [hp6.2 x (by omega) (by omega) (by omega), em5, zs_ne _ _ _ (by omega), em4, zs_ne _ _ _ (by omega)]; exact h26_5 x hx) (by omega)
                · refine z_iconst C dX5_bestOrder_77 ?_
                  refine z_goto C dX5_bestOrder_78 (tgt := 82) (by decide) ?_
                  refine z_istore C dX5_bestOrder_82 (by decide) (L' := [(0, _), (1, _), (2, _), (3, _), (4, _), (5, _)]) rfl ?_
                  refine z_iload C dX5_bestOrder_84 5 rfl ?_
                  refine z_if_eq C dX5_bestOrder_86 (tgt := 119) (by decide) (by decide) (fun c16 => (by exfalso; omega)) (fun _ => ?_)
                  refine z_aload_n C dX5_bestOrder_89 0 rfl ?_
                  refine z_getR C ffX5_36 dX5_bestOrder_90 (by decide) rfl rfl ?_
                  refine z_aload_n C dX5_bestOrder_93 0 rfl ?_
                  refine z_getR C ffX5_16 dX5_bestOrder_94 (by decide) rfl rfl ?_
                  refine z_callVi C (c_X2_letAllMeetAll (zl X) m6 6 (Or.inr (Or.inl rfl)) (vOrd v st sh) (zT_fr hT6 (fun x _ _ => hp6.2 x (by omega) (by omega) (by omega))) hO hp6.1) yyX2_letAllMeetAll mlX5_167 (zRc_of (i := 18) C (by decide) rfl rfl) dX5_bestOrder_97 rfl rfl (Nat.le_of_ble_eq_true rfl) (by decide) (fun r17 m17 hr17 hp17 => ?_)
                  obtain ⟨rfl, hp17⟩ := hp17
                  rcases hp17 with ⟨rfl, hp17⟩ | ⟨rfl, hp17⟩
                  · refine z_if_eq C dX5_bestOrder_100 (tgt := 119) (by decide) (by decide) (fun c18 => (by exfalso; omega)) (fun _ => ?_)
                    refine z_aload_n C dX5_bestOrder_103 0 rfl ?_
                    refine z_getR C ffX5_36 dX5_bestOrder_104 (by decide) rfl rfl ?_
                    refine z_getI C ffX5_164 dX5_bestOrder_107 (by decide) rfl rfl 3 rfl (fun hr19 => ?_)
                    rw [hsh]
                    refine z_istore_n C dX5_bestOrder_110 (by decide) (L' := [(0, _), (1, _), (2, _), (3, _), (4, _), (5, _)]) rfl ?_
                    refine z_bipush C dX5_bestOrder_111 (by decide) ?_
                    refine z_iload_n C dX5_bestOrder_113 3 rfl ?_
                    refine z_imul C dX5_bestOrder_114 ?_
                    refine z_iload C dX5_bestOrder_115 4 rfl ?_
                    refine z_iadd C dX5_bestOrder_117 ?_
                    refine z_istore_n C dX5_bestOrder_118 (by decide) (L' := [(0, _), (1, _), (2, _), (3, _), (4, _), (5, _)]) rfl ?_
                    refine z_iinc C dX5_bestOrder_119 4 rfl (by decide) (L' := [(0, _), (1, _), (2, _), (3, _), (4, _), (5, _)]) rfl ?_
                    refine z_goto C dX5_bestOrder_122 (tgt := 26) (by decide) ?_
                    refine z_sub [0, 1, 2, 3, 4] rfl ?_; exact ih26 _ _ _ st sh m6 (by omega) (by omega) (by rw [sBeH_s v st (by omega), if_pos ⟨(by omega), (sAlB_t hO).2 hp17⟩]) (by rw [sBeH_s v st (by omega), if_pos ⟨(by omega), (sAlB_t hO).2 hp17⟩]) (zT_fr hT6 (fun x _ _ => hp6.2 x (by omega) (by omega) (by omega))) (fun x hx => by rw [hp6.2 x (by omega) (by omega) (by omega), em5, zs_ne _ _ _ (by omega), em4, zs_ne _ _ _ (by omega)]; exact h26_5 x hx) (by omega)
                  · refine z_if_eq C dX5_bestOrder_100 (tgt := 119) (by decide) (by decide) (fun _ => ?_) (fun c20 => (by exfalso; omega))
                    refine z_iinc C dX5_bestOrder_119 4 rfl (by decide) (L' := [(0, _), (1, _), (2, _), (3, _), (4, _), (5, _)]) rfl ?_
                    refine z_goto C dX5_bestOrder_122 (tgt := 26) (by decide) ?_
                    refine z_sub [0, 1, 2, 3, 4] rfl ?_; exact ih26 _ _ _ st sh m6 (by omega) (by omega) (by rw [sBeH_s v st (by omega), if_neg (fun z => hp17 ((sAlB_t hO).1 z.2))]; exact h26_2) (by rw [sBeH_s v st (by omega), if_neg (fun z => hp17 ((sAlB_t hO).1 z.2))]; exact h26_3) (zT_fr hT6 (fun x _ _ => hp6.2 x (by omega) (by omega) (by omega))) (fun x hx => by rw [hp6.2 x (by omega) (by omega) (by omega), em5, zs_ne _ _ _ (by omega), em4, zs_ne _ _ _ (by omega)]; exact h26_5 x hx) (by omega)
        exact LP26 _ best least 0 a b ma (by omega) (by omega) h18_2 h18_3 h18_4 h18_5 (Nat.lt_succ_self _)
  exact LP18 _ (-9) 0 1 (vS v) (vH v) m1 (by omega) (by omega) rfl rfl hp1.1 (fun x hx => by rw [hp1.2 x (by omega)]) (Nat.lt_succ_self _)
set_option maxHeartbeats 4000000 in
theorem c_X5_gotWhenAsking (l : Launch) (μ : zM) (s : zS) (hs : zCl μ s) (hso : sOK s) (k p : Int) (hkk : k = 0 ∨ k = 1) (hpr : zR p) : zMi l yX5_gotWhenAsking cX5_gotWhenAsking 3 (.int) 4 97 [.inr 0, .inl k, .inl p] μ (fun (r : Int) (m : zM) => r = (tGot s p k).1 ∧ zCl m (tGot s p k).2 ∧ ∀ a, 31 ≤ a → a < 48 → m a = μ a) := by
  refine zMi_of (own := RX5) (by decide +kernel) rfl (Nat.le_of_ble_eq_true rfl) ?_
  intro X hX C hrm E
  subst hX
  show zJ X 3 μ 0 [(0, .inr 0), (1, .inl k), (2, .inl p)] []
  obtain ⟨hv, hk, hi, hl, hm, hw, hf⟩ := id hs
  obtain ⟨ho, hok, hoi, hon, hot, hom, how⟩ := id hso
  generalize hgv : gV s = v at hv ho
  obtain ⟨hv1, hv2, hv3, hv4, hv5, hv6, hv7⟩ := id hv
  obtain ⟨ho1, ho2, ho3, ho4, ho5, ho6, ho7⟩ := id ho
  have hN := vN_ok ho
  refine z_aload_n C dX5_gotWhenAsking_0 0 rfl ?_
  refine z_getR C ffX5_10 dX5_gotWhenAsking_1 (by decide) rfl rfl ?_
  refine z_iload_n C dX5_gotWhenAsking_4 2 rfl ?_
  refine z_callVi C (c_X4_isThere (zl X) μ 1 (Or.inl rfl) v hv ho p (by omega)) yyX4_isThere mlX5_94 (zRc_of (i := 1) C (by decide) rfl rfl) dX5_gotWhenAsking_5 rfl rfl (Nat.le_of_ble_eq_true rfl) (by decide) (fun r1 m1 hr1 hp1 => ?_)
  obtain ⟨rfl, hp1⟩ := hp1
  rcases hp1 with ⟨rfl, hp1⟩ | ⟨rfl, hp1⟩
  · refine z_if_ne C dX5_gotWhenAsking_8 (tgt := 17) (by decide) (by decide) (fun _ => ?_) (fun c2 => (by exfalso; omega))
    refine z_aload_n C dX5_gotWhenAsking_17 0 rfl ?_
    refine z_getR C ffX5_43 dX5_gotWhenAsking_18 (by decide) rfl rfl ?_
    refine z_aload_n C dX5_gotWhenAsking_21 0 rfl ?_
    refine z_getR C ffX5_10 dX5_gotWhenAsking_22 (by decide) rfl rfl ?_
    refine z_iload_n C dX5_gotWhenAsking_25 1 rfl ?_
    refine z_callVv C (c_X1_askInTurn (zl X) μ 1 (Or.inl rfl) v hv ho k hkk) yyX1_askInTurn mlX5_211 (zRc_of (i := 22) C (by decide) rfl rfl) dX5_gotWhenAsking_26 rfl rfl (Nat.le_of_ble_eq_true rfl) (by decide) (fun m3 hp3 => ?_)
    refine z_aload_n C dX5_gotWhenAsking_29 0 rfl ?_
    refine z_getR C ffX5_43 dX5_gotWhenAsking_30 (by decide) rfl rfl ?_
    refine z_getR C ffX5_215 dX5_gotWhenAsking_33 (by decide) rfl rfl ?_
    refine z_iload_n C dX5_gotWhenAsking_36 2 rfl ?_
    refine z_iald C dX5_gotWhenAsking_37 (by decide) rfl (by omega) (by decide) (fun hr4 => ?_)
    rw [(hp3.1 p (by omega) (by omega)).1]
    have hU := (sIt_b (v := v) (sIn_b ho k) 25 p (by omega) (by omega)).1
    exact E dX5_gotWhenAsking_38 (by omega) rfl (t_fin (P := zCl) (show tGot s p k = ((sIt v (sIn v k) 25).1 p, s) by unfold tGot; (first | rw [hgv] | skip); repeat (first | rw [if_pos (by omega)] | rw [if_neg (by omega)])) (zCl_fr hs (fun a _ => by rw [hp3.2 a (by omega) (by omega)])) (fun a _ _ => by rw [hp3.2 a (by omega) (by omega)]))
  · refine z_if_ne C dX5_gotWhenAsking_8 (tgt := 17) (by decide) (by decide) (fun c5 => (by exfalso; omega)) (fun _ => ?_)
    refine z_aload_n C dX5_gotWhenAsking_11 0 rfl ?_
    refine z_iconst C dX5_gotWhenAsking_12 ?_
    refine z_callVi C (c_X5_refuse (zl X) μ 1 (by omega)) yyX5_refuse mlX5_65 (zRc_of (i := 0) C (by decide) rfl rfl) dX5_gotWhenAsking_13 rfl rfl (Nat.le_of_ble_eq_true rfl) (by decide) (fun r6 m6 hr6 hp6 => ?_)
    rw [hp6.1]
    exact E dX5_gotWhenAsking_16 (by decide) rfl (t_fin (P := zCl) (show tGot s p k = ((-1), (pF s 1)) by unfold tGot; (first | rw [hgv] | skip); repeat (first | rw [if_pos (by omega)] | rw [if_neg (by omega)])) (by rw [hp6.2]; exact zCl_F hs (by omega)) (fun a _ _ => by rw [hp6.2, zs_ne _ _ _ (by omega)]))
set_option maxHeartbeats 4000000 in
theorem c_X5_ranks (l : Launch) (μ : zM) (s : zS) (hs : zCl μ s) (hso : sOK s) (p : Int) (hpr : zR p) : zMi l yX5_ranks cX5_ranks 2 (.int) 5 119 [.inr 0, .inl p] μ (fun (r : Int) (m : zM) => r = (tGot s p 0).1 ∧ zCl m (tGot s p 0).2 ∧ ∀ a, 31 ≤ a → a < 48 → m a = μ a) := by
  refine zMi_of (own := RX5) (by decide +kernel) rfl (Nat.le_of_ble_eq_true rfl) ?_
  intro X hX C hrm E
  subst hX
  show zJ X 2 μ 0 [(0, .inr 0), (1, .inl p)] []
  refine z_aload_n C dX5_ranks_0 0 rfl ?_
  refine z_iconst C dX5_ranks_1 ?_
  refine z_iload_n C dX5_ranks_2 1 rfl ?_
  refine z_callVi C (c_X5_gotWhenAsking (zl X) μ s hs hso 0 p (by omega) (by omega)) yyX5_gotWhenAsking mlX5_171 (zRc_of (i := 0) C (by decide) rfl rfl) dX5_ranks_3 rfl rfl (Nat.le_of_ble_eq_true rfl) (by decide) (fun r1 m1 hr1 hp1 => ?_)
  exact E dX5_ranks_6 (by omega) rfl hp1
set_option maxHeartbeats 4000000 in
theorem c_X5_asked (l : Launch) (μ : zM) (s : zS) (hs : zCl μ s) (hso : sOK s) (p : Int) (hpr : zR p) : zMi l yX5_asked cX5_asked 2 (.int) 5 119 [.inr 0, .inl p] μ (fun (r : Int) (m : zM) => r = (tGot s p 1).1 ∧ zCl m (tGot s p 1).2 ∧ ∀ a, 31 ≤ a → a < 48 → m a = μ a) := by
  refine zMi_of (own := RX5) (by decide +kernel) rfl (Nat.le_of_ble_eq_true rfl) ?_
  intro X hX C hrm E
  subst hX
  show zJ X 2 μ 0 [(0, .inr 0), (1, .inl p)] []
  refine z_aload_n C dX5_asked_0 0 rfl ?_
  refine z_iconst C dX5_asked_1 ?_
  refine z_iload_n C dX5_asked_2 1 rfl ?_
  refine z_callVi C (c_X5_gotWhenAsking (zl X) μ s hs hso 1 p (by omega) (by omega)) yyX5_gotWhenAsking mlX5_171 (zRc_of (i := 0) C (by decide) rfl rfl) dX5_asked_3 rfl rfl (Nat.le_of_ble_eq_true rfl) (by decide) (fun r1 m1 hr1 hp1 => ?_)
  exact E dX5_asked_6 (by omega) rfl hp1
set_option maxHeartbeats 4000000 in
theorem c_X5_firm (l : Launch) (μ : zM) (s : zS) (hs : zCl μ s) (hso : sOK s) : zMi l yX5_firm cX5_firm 1 (.int) 4 95 [.inr 0] μ (fun (r : Int) (m : zM) => r = (tFirm s).1 ∧ zCl m (tFirm s).2 ∧ ∀ a, 31 ≤ a → a < 48 → m a = μ a) := by
  refine zMi_of (own := RX5) (by decide +kernel) rfl (Nat.le_of_ble_eq_true rfl) ?_
  intro X hX C hrm E
  subst hX
  show zJ X 1 μ 0 [(0, .inr 0)] []
  obtain ⟨hv, hk, hi, hl, hm, hw, hf⟩ := id hs
  obtain ⟨ho, hok, hoi, hon, hot, hom, how⟩ := id hso
  generalize hgv : gV s = v at hv ho
  obtain ⟨hv1, hv2, hv3, hv4, hv5, hv6, hv7⟩ := id hv
  obtain ⟨ho1, ho2, ho3, ho4, ho5, ho6, ho7⟩ := id ho
  have hN := vN_ok ho
  refine z_aload_n C dX5_firm_0 0 rfl ?_
  refine z_getR C ffX5_50 dX5_firm_1 (by decide) rfl rfl ?_
  refine z_aload_n C dX5_firm_4 0 rfl ?_
  refine z_getR C ffX5_10 dX5_firm_5 (by decide) rfl rfl ?_
  refine z_callVi C (c_X0_firmWays (zl X) μ 1 (Or.inl rfl) v hv ho) yyX0_firmWays mlX5_174 (zRc_of (i := 27) C (by decide) rfl rfl) dX5_firm_8 rfl rfl (Nat.le_of_ble_eq_true rfl) (by decide) (fun r1 m1 hr1 hp1 => ?_)
  rw [hp1.1]
  have hU := sFirm_b ho
  exact E dX5_firm_11 (by omega) rfl (t_fin (P := zCl) (show tFirm s = (sFirm v, s) by unfold tFirm; (first | rw [hgv] | skip); repeat (first | rw [if_pos (by omega)] | rw [if_neg (by omega)])) (zCl_fr hs (fun a _ => by rw [hp1.2 a (by omega)])) (fun a _ _ => by rw [hp1.2 a (by omega)]))
set_option maxHeartbeats 4000000 in
theorem c_X5_row (l : Launch) (μ : zM) (s : zS) (hs : zCl μ s) (hso : sOK s) (z : Int) (hz : zR z) : zMi l yX5_row cX5_row 2 (.int) 1 21 [.inr 0, .inl z] μ (fun (r : Int) (m : zM) => r = (tRow s z).1 ∧ zCl m (tRow s z).2 ∧ ∀ a, 31 ≤ a → a < 48 → m a = μ a) := by
  refine zMi_of (own := RX5) (by decide +kernel) rfl (Nat.le_of_ble_eq_true rfl) ?_
  intro X hX C hrm E
  subst hX
  show zJ X 2 μ 0 [(0, .inr 0), (1, .inl z)] []
  obtain ⟨hv, hk, hi, hl, hm, hw, hf⟩ := id hs
  obtain ⟨ho, hok, hoi, hon, hot, hom, how⟩ := id hso
  generalize hgv : gV s = v at hv ho
  obtain ⟨hv1, hv2, hv3, hv4, hv5, hv6, hv7⟩ := id hv
  obtain ⟨ho1, ho2, ho3, ho4, ho5, ho6, ho7⟩ := id ho
  have hN := vN_ok ho
  refine z_iload_n C dX5_row_0 1 rfl ?_
  refine z_if_ge C dX5_row_1 (tgt := 11) (by decide) (by omega) (fun c1 => ?_) (fun c1 => ?_)
  · refine z_iload_n C dX5_row_11 1 rfl ?_
    refine z_bipush C dX5_row_12 (by decide) ?_
    refine z_icmp_gt C dX5_row_14 (tgt := 26) (by decide) (by omega) (by decide) (fun c2 => ?_) (fun c2 => ?_)
    · refine z_aload_n C dX5_row_26 0 rfl ?_
      refine z_bipush C dX5_row_27 (by decide) ?_
      refine z_callVi C (c_X5_refuse (zl X) μ 6 (by omega)) yyX5_refuse mlX5_65 (zRc_of (i := 0) C (by decide) rfl rfl) dX5_row_29 rfl rfl (Nat.le_of_ble_eq_true rfl) (by decide) (fun r3 m3 hr3 hp3 => ?_)
      rw [hp3.1]
      exact E dX5_row_32 (by decide) rfl (t_fin (P := zCl) (show tRow s z = ((-6), (pF s 6)) by unfold tRow; (first | rw [hgv] | skip); repeat (first | rw [if_pos (by omega)] | rw [if_neg (by omega)])) (by rw [hp3.2]; exact zCl_F hs (by omega)) (fun a _ _ => by rw [hp3.2, zs_ne _ _ _ (by omega)]))
    · refine z_aload_n C dX5_row_17 0 rfl ?_
      refine z_getI C ffX5_58 dX5_row_18 (by decide) rfl rfl 9 rfl (fun hr4 => ?_)
      rw [hm]
      refine z_bipush C dX5_row_21 (by decide) ?_
      refine z_icmp_lt C dX5_row_23 (tgt := 33) (by decide) (by omega) (by decide) (fun c5 => ?_) (fun c5 => ?_)
      · refine z_aload_n C dX5_row_33 0 rfl ?_
        refine z_getR C ffX5_54 dX5_row_34 (by decide) rfl rfl ?_
        refine z_aload_n C dX5_row_37 0 rfl ?_
        refine z_getI C ffX5_58 dX5_row_38 (by decide) rfl rfl 9 rfl (fun hr6 => ?_)
        rw [hm]
        refine z_iload_n C dX5_row_41 1 rfl ?_
        refine z_iast C dX5_row_42 (by decide) rfl (by omega) (by decide) (by omega) ?_
        refine z_mem (fun m7 em7 => ?_)
        refine z_aload_n C dX5_row_43 0 rfl ?_
        refine z_dup C dX5_row_44 ?_
        refine z_getI C ffX5_58 dX5_row_45 (by decide) rfl rfl 9 rfl (fun hr8 => ?_)
        rw [show m7 0 9 = gM s by rw [em7, zs_ne _ _ _ (by omega)]; exact hm]
        refine z_iconst C dX5_row_48 ?_
        refine z_iadd C dX5_row_49 ?_
        refine z_putI C ffX5_58 fp5_9 dX5_row_50 (by decide) rfl rfl 9 rfl (by omega) ?_
        refine z_mem (fun m9 em9 => ?_)
        refine z_aload_n C dX5_row_53 0 rfl ?_
        refine z_getI C ffX5_58 dX5_row_54 (by decide) rfl rfl 9 rfl (fun hr10 => ?_)
        rw [show m9 0 9 = gM s + 1 by rw [em9, zs_self]]
        exact E dX5_row_57 (by omega) rfl (t_fin (P := zCl) (show tRow s z = (gM s + 1, pR s z) by unfold tRow; (first | rw [hgv] | skip); repeat (first | rw [if_pos (by omega)] | rw [if_neg (by omega)])) (by rw [em9, em7]; exact zCl_R hs z) (fun a _ _ => by rw [em9, zs_ne _ _ _ (by omega), em7, zs_ne _ _ _ (by omega)]))
      · refine z_aload_n C dX5_row_26 0 rfl ?_
        refine z_bipush C dX5_row_27 (by decide) ?_
        refine z_callVi C (c_X5_refuse (zl X) μ 6 (by omega)) yyX5_refuse mlX5_65 (zRc_of (i := 0) C (by decide) rfl rfl) dX5_row_29 rfl rfl (Nat.le_of_ble_eq_true rfl) (by decide) (fun r11 m11 hr11 hp11 => ?_)
        rw [hp11.1]
        exact E dX5_row_32 (by decide) rfl (t_fin (P := zCl) (show tRow s z = ((-6), (pF s 6)) by unfold tRow; (first | rw [hgv] | skip); repeat (first | rw [if_pos (by omega)] | rw [if_neg (by omega)])) (by rw [hp11.2]; exact zCl_F hs (by omega)) (fun a _ _ => by rw [hp11.2, zs_ne _ _ _ (by omega)]))
  · refine z_aload_n C dX5_row_4 0 rfl ?_
    refine z_bipush C dX5_row_5 (by decide) ?_
    refine z_callVi C (c_X5_refuse (zl X) μ 4 (by omega)) yyX5_refuse mlX5_65 (zRc_of (i := 0) C (by decide) rfl rfl) dX5_row_7 rfl rfl (Nat.le_of_ble_eq_true rfl) (by decide) (fun r12 m12 hr12 hp12 => ?_)
    rw [hp12.1]
    exact E dX5_row_10 (by decide) rfl (t_fin (P := zCl) (show tRow s z = ((-4), (pF s 4)) by unfold tRow; (first | rw [hgv] | skip); repeat (first | rw [if_pos (by omega)] | rw [if_neg (by omega)])) (by rw [hp12.2]; exact zCl_F hs (by omega)) (fun a _ _ => by rw [hp12.2, zs_ne _ _ _ (by omega)]))
set_option maxHeartbeats 4000000 in
theorem c_X5_holdAsTheRowTells (l : Launch) (μ : zM) (s : zS) (hs : zCl μ s) (hso : sOK s) : zMi l yX5_holdAsTheRowTells cX5_holdAsTheRowTells 3 (.boolean) 1 22 [.inr 0] μ (fun (r : Int) (m : zM) => ((r = 1 ∧ gM s = vL (gV s) ∧ (sHr (gV s) (gW s) (vL (gV s)).toNat).1 = true ∧ zHs m (sHr (gV s) (gW s) (vL (gV s)).toNat).2) ∨ (r = 0 ∧ ¬ (gM s = vL (gV s) ∧ (sHr (gV s) (gW s) (vL (gV s)).toNat).1 = true))) ∧ ∀ x, x ≠ 28 → m x = μ x) := by
  refine zMi_of (own := RX5) (by decide +kernel) rfl (Nat.le_of_ble_eq_true rfl) ?_
  intro X hX C hrm E
  subst hX
  show zJ X 3 μ 0 [(0, .inr 0)] []
  obtain ⟨hv, hk, hi, hl, hm, hw, hf⟩ := id hs
  obtain ⟨ho, hok, hoi, hon, hot, hom, how⟩ := id hso
  generalize hgv : gV s = v at hv ho
  obtain ⟨hv1, hv2, hv3, hv4, hv5, hv6, hv7⟩ := id hv
  obtain ⟨ho1, ho2, ho3, ho4, ho5, ho6, ho7⟩ := id ho
  have hN := vN_ok ho
  refine z_aload_n C dX5_holdAsTheRowTells_0 0 rfl ?_
  refine z_getI C ffX5_58 dX5_holdAsTheRowTells_1 (by decide) rfl rfl 9 rfl (fun hr1 => ?_)
  rw [hm]
  refine z_aload_n C dX5_holdAsTheRowTells_4 0 rfl ?_
  refine z_getR C ffX5_10 dX5_holdAsTheRowTells_5 (by decide) rfl rfl ?_
  refine z_getR C ffX5_189 dX5_holdAsTheRowTells_8 (by decide) rfl rfl ?_
  refine z_iconst C dX5_holdAsTheRowTells_11 ?_
  refine z_iald C dX5_holdAsTheRowTells_12 (by decide) rfl (by decide) (by decide) (fun hr2 => ?_)
  rw [hv1]
  refine z_icmp_eq C dX5_holdAsTheRowTells_13 (tgt := 18) (by decide) (by omega) (by omega) (fun c3 => ?_) (fun c3 => ?_)
  · refine z_aload_n C dX5_holdAsTheRowTells_18 0 rfl ?_
    refine z_getR C ffX5_50 dX5_holdAsTheRowTells_19 (by decide) rfl rfl ?_
    refine z_callVv C (c_X0_letAllGo (zl X) μ) yyX0_letAllGo mlX5_218 (zRc_of (i := 27) C (by decide) rfl rfl) dX5_holdAsTheRowTells_22 rfl rfl (Nat.le_of_ble_eq_true rfl) (by decide) (fun m4 hp4 => ?_)
    refine z_iconst C dX5_holdAsTheRowTells_25 ?_
    refine z_istore_n C dX5_holdAsTheRowTells_26 (by decide) (L' := [(0, _), (1, _)]) rfl ?_
    have LP27 : ∀ (N27 : Nat) (a : Int) (ma : zM), (0 ≤ a) → (a ≤ gM s) → ((sHr v (gW s) a.toNat).1 = true) → (zHs ma (sHr v (gW s) a.toNat).2) → (∀ x, x ≠ 28 → ma x = μ x) → (11 - a).toNat < N27 → zJ X 3 ma 27 [(0, .inr 0), (1, .inl a)] [] := by
      intro N27
      induction N27 with
      | zero => intro a ma h27_0 h27_1 h27_2 h27_3 h27_4 hN; exact absurd hN (Nat.not_lt_zero _)
      | succ N27 ih27 =>
        intro a ma h27_0 h27_1 h27_2 h27_3 h27_4 hN27
        refine z_iload_n C dX5_holdAsTheRowTells_27 1 rfl ?_
        refine z_aload_n C dX5_holdAsTheRowTells_28 0 rfl ?_
        refine z_getI C ffX5_58 dX5_holdAsTheRowTells_29 (by decide) rfl rfl 9 rfl (fun hr5 => ?_)
        rw [show ma 0 9 = gM s by rw [h27_4 0 (by omega)]; exact hm]
        refine z_icmp_ge C dX5_holdAsTheRowTells_32 (tgt := 86) (by decide) (by omega) (by omega) (fun c6 => ?_) (fun c6 => ?_)
        · refine z_iconst C dX5_holdAsTheRowTells_86 ?_
          exact E dX5_holdAsTheRowTells_87 (by decide) (z_nb (Or.inr rfl)) ⟨Or.inl ⟨rfl, (by rw [hgv]; omega), (by rw [hgv, show (vL v).toNat = a.toNat by omega]; exact h27_2), (by rw [hgv, show (vL v).toNat = a.toNat by omega]; exact h27_3)⟩, h27_4⟩
        · refine z_aload_n C dX5_holdAsTheRowTells_35 0 rfl ?_
          refine z_getR C ffX5_54 dX5_holdAsTheRowTells_36 (by decide) rfl rfl ?_
          refine z_iload_n C dX5_holdAsTheRowTells_39 1 rfl ?_
          refine z_iald C dX5_holdAsTheRowTells_40 (by decide) rfl (by omega) (by decide) (fun hr7 => ?_)
          rw [show ma 29 a = gW s a by rw [h27_4 29 (by omega)]; exact hw a (by omega) (by omega)]
          have hwb := how a (by omega) (by omega)
          refine z_istore_n C dX5_holdAsTheRowTells_41 (by decide) (L' := [(0, _), (1, _), (2, _)]) rfl ?_
          refine z_iload_n C dX5_holdAsTheRowTells_42 2 rfl ?_
          refine z_bipush C dX5_holdAsTheRowTells_43 (by decide) ?_
          refine z_icmp_ne C dX5_holdAsTheRowTells_45 (tgt := 51) (by decide) (by omega) (by decide) (fun c8 => ?_) (fun c8 => ?_)
          · refine z_iload_n C dX5_holdAsTheRowTells_51 2 rfl ?_
            refine z_aload_n C dX5_holdAsTheRowTells_52 0 rfl ?_
            refine z_getR C ffX5_10 dX5_holdAsTheRowTells_53 (by decide) rfl rfl ?_
            refine z_getR C ffX5_189 dX5_holdAsTheRowTells_56 (by decide) rfl rfl ?_
            refine z_iconst C dX5_holdAsTheRowTells_59 ?_
            refine z_iald C dX5_holdAsTheRowTells_60 (by decide) rfl (by decide) (by decide) (fun hr9 => ?_)
            rw [show ma 2 1 = vR v by rw [h27_4 2 (by omega)]; exact hv2]
            refine z_icmp_ge C dX5_holdAsTheRowTells_61 (tgt := 78) (by decide) (by omega) (by omega) (fun c10 => ?_) (fun c10 => ?_)
            · refine z_iconst C dX5_holdAsTheRowTells_78 ?_
              exact E dX5_holdAsTheRowTells_79 (by decide) (z_nb (Or.inl rfl)) ⟨Or.inr ⟨rfl, (by rw [hgv]; exact fun z => by have hx := z.2; rw [show (vL v).toNat = (a + 1).toNat + (vL v - (a + 1)).toNat by omega, sHr_no v (gW s) (by rw [sHr_s v (gW s) (by omega), if_pos h27_2, if_neg (by omega), if_neg (fun y => absurd y.1 (by omega))])] at hx; cases hx)⟩, h27_4⟩
            · refine z_aload_n C dX5_holdAsTheRowTells_64 0 rfl ?_
              refine z_getR C ffX5_50 dX5_holdAsTheRowTells_65 (by decide) rfl rfl ?_
              refine z_iload_n C dX5_holdAsTheRowTells_68 1 rfl ?_
              refine z_iconst C dX5_holdAsTheRowTells_69 ?_
              refine z_iload_n C dX5_holdAsTheRowTells_70 2 rfl ?_
              refine z_iadd C dX5_holdAsTheRowTells_71 ?_
              refine z_callVi C (c_X0_give (zl X) ma a (5 + gW s a) (by omega) (by omega)) yyX0_give mlX5_221 (zRc_of (i := 27) C (by decide) rfl rfl) dX5_holdAsTheRowTells_72 rfl rfl (Nat.le_of_ble_eq_true rfl) (by decide) (fun r11 m11 hr11 hp11 => ?_)
              rcases hp11 with ⟨rfl, hp11⟩ | ⟨rfl, hp11⟩
              · have hgg : (sHr v (gW s) a.toNat).2 (5 + gW s a) = -9 := by rw [← h27_3 (5 + gW s a) (by omega) (by omega)]; exact hp11.1
                refine z_if_ne C dX5_holdAsTheRowTells_75 (tgt := 80) (by decide) (by decide) (fun _ => ?_) (fun c12 => (by exfalso; omega))
                refine z_iinc C dX5_holdAsTheRowTells_80 1 rfl (by decide) (L' := [(0, _), (1, _), (2, _)]) rfl ?_
                refine z_goto C dX5_holdAsTheRowTells_83 (tgt := 27) (by decide) ?_
                refine z_sub [0, 1] rfl ?_; exact ih27 _ m11 (by omega) (by omega) (by rw [sHr_s v (gW s) (by omega), if_pos h27_2, if_neg (by omega), if_pos ⟨by omega, hgg⟩]) (by rw [sHr_s v (gW s) (by omega), if_pos h27_2, if_neg (by omega), if_pos ⟨by omega, hgg⟩, hp11.2]; exact zHs_give h27_3) (fun x hx => by rw [hp11.2, zs_ne _ _ _ hx, zs_ne _ _ _ hx]; exact h27_4 x hx) (by omega)
              · have hgg : ¬ (sHr v (gW s) a.toNat).2 (5 + gW s a) = -9 := by rw [← h27_3 (5 + gW s a) (by omega) (by omega)]; exact hp11.1
                refine z_if_ne C dX5_holdAsTheRowTells_75 (tgt := 80) (by decide) (by decide) (fun c13 => (by exfalso; omega)) (fun _ => ?_)
                refine z_iconst C dX5_holdAsTheRowTells_78 ?_
                exact E dX5_holdAsTheRowTells_79 (by decide) (z_nb (Or.inl rfl)) ⟨Or.inr ⟨rfl, (by rw [hgv]; exact fun z => by have hx := z.2; rw [show (vL v).toNat = (a + 1).toNat + (vL v - (a + 1)).toNat by omega, sHr_no v (gW s) (by rw [sHr_s v (gW s) (by omega), if_pos h27_2, if_neg (by omega), if_neg (fun y => absurd y.2 hgg)])] at hx; cases hx)⟩, (by rw [hp11.2]; exact h27_4)⟩
          · refine z_goto C dX5_holdAsTheRowTells_48 (tgt := 80) (by decide) ?_
            refine z_iinc C dX5_holdAsTheRowTells_80 1 rfl (by decide) (L' := [(0, _), (1, _), (2, _)]) rfl ?_
            refine z_goto C dX5_holdAsTheRowTells_83 (tgt := 27) (by decide) ?_
            refine z_sub [0, 1] rfl ?_; exact ih27 _ ma (by omega) (by omega) (by rw [sHr_s v (gW s) (by omega), if_pos h27_2, if_pos (by omega)]; exact h27_2) (by rw [sHr_s v (gW s) (by omega), if_pos h27_2, if_pos (by omega)]; exact h27_3) h27_4 (by omega)
    exact LP27 _ 0 m4 (by omega) (by omega) rfl hp4.1 hp4.2 (Nat.lt_succ_self _)
  · refine z_iconst C dX5_holdAsTheRowTells_16 ?_
    exact E dX5_holdAsTheRowTells_17 (by decide) (z_nb (Or.inl rfl)) ⟨Or.inr ⟨rfl, (by rw [hgv]; exact fun z => absurd z.1 (by omega))⟩, fun _ _ => rfl⟩
set_option maxHeartbeats 4000000 in
theorem c_X5_rather (l : Launch) (μ : zM) (s : zS) (hs : zCl μ s) (hso : sOK s) : zMi l yX5_rather cX5_rather 1 (.int) 3 69 [.inr 0] μ (fun (r : Int) (m : zM) => r = (tRather s).1 ∧ zCl m (tRather s).2 ∧ ∀ a, 31 ≤ a → a < 48 → m a = μ a) := by
  refine zMi_of (own := RX5) (by decide +kernel) rfl (Nat.le_of_ble_eq_true rfl) ?_
  intro X hX C hrm E
  subst hX
  show zJ X 1 μ 0 [(0, .inr 0)] []
  obtain ⟨hv, hk, hi, hl, hm, hw, hf⟩ := id hs
  obtain ⟨ho, hok, hoi, hon, hot, hom, how⟩ := id hso
  generalize hgv : gV s = v at hv ho
  obtain ⟨hv1, hv2, hv3, hv4, hv5, hv6, hv7⟩ := id hv
  obtain ⟨ho1, ho2, ho3, ho4, ho5, ho6, ho7⟩ := id ho
  have hN := vN_ok ho
  refine z_aload_n C dX5_rather_0 0 rfl ?_
  refine z_callVi C (c_X5_holdAsTheRowTells (zl X) μ s hs hso) yyX5_holdAsTheRowTells mlX5_177 (zRc_of (i := 0) C (by decide) rfl rfl) dX5_rather_1 rfl rfl (Nat.le_of_ble_eq_true rfl) (by decide) (fun r1 m1 hr1 hp1 => ?_)
  obtain ⟨hh, hg⟩ := hp1
  rw [hgv] at hh
  have hrb : r1 = 0 ∨ r1 = 1 := by rcases hh with h | h <;> omega
  refine z_if_ne C dX5_rather_4 (tgt := 14) (by decide) (by omega) (fun c2 => ?_) (fun c2 => ?_)
  · have hh2 := hh.resolve_right (fun z => by omega)
    have hHb := sHr_b ho (w := gW s) (n := gM s) how (vL v).toNat (by omega) (by omega)
    have hFb := sFw_b ho (sHr v (gW s) (vL v).toNat).2
    refine z_aload_n C dX5_rather_14 0 rfl ?_
    refine z_getR C ffX5_50 dX5_rather_15 (by decide) rfl rfl ?_
    refine z_aload_n C dX5_rather_18 0 rfl ?_
    refine z_getR C ffX5_10 dX5_rather_19 (by decide) rfl rfl ?_
    refine z_callVi C (c_X0_firstWhoWouldRather (zl X) m1 1 (Or.inl rfl) v (zT_fr hv (fun a _ _ => by rw [hg a (by omega)])) ho (sHr v (gW s) (vL v).toNat).2 hh2.2.2.2 hHb) yyX0_firstWhoWouldRather mlX5_180 (zRc_of (i := 27) C (by decide) rfl rfl) dX5_rather_22 rfl rfl (Nat.le_of_ble_eq_true rfl) (by decide) (fun r3 m3 hr3 hp3 => ?_)
    obtain ⟨rfl, hp3⟩ := hp3
    rw [hp3]
    exact E dX5_rather_25 (by omega) rfl (t_fin (P := zCl) (show tRather s = (sFw v (sHr v (gW s) (vL v).toNat).2, s) by unfold tRather; (first | rw [hgv] | skip); rw [if_pos ⟨hh2.2.1, hh2.2.2.1⟩]) (zCl_fr hs (fun a _ => by rw [hg a (by omega)])) (fun a _ _ => by rw [hg a (by omega)]))
  · refine z_aload_n C dX5_rather_7 0 rfl ?_
    refine z_bipush C dX5_rather_8 (by decide) ?_
    refine z_callVi C (c_X5_refuse (zl X) m1 3 (by omega)) yyX5_refuse mlX5_65 (zRc_of (i := 0) C (by decide) rfl rfl) dX5_rather_10 rfl rfl (Nat.le_of_ble_eq_true rfl) (by decide) (fun r4 m4 hr4 hp4 => ?_)
    rw [hp4.1]
    exact E dX5_rather_13 (by decide) rfl (t_fin (P := zCl) (show tRather s = ((-3), pF s 3) by unfold tRather; (first | rw [hgv] | skip); rw [if_neg (hh.resolve_left (fun z => by omega)).2]) (by rw [hp4.2]; exact zCl_F (zCl_fr hs (fun a _ => by rw [hg a (by omega)])) (by omega)) (fun a _ _ => by rw [hp4.2, zs_ne _ _ _ (by omega), hg a (by omega)]))
set_option maxHeartbeats 4000000 in
theorem c_X5_truly (l : Launch) (μ : zM) (s : zS) (hs : zCl μ s) (hso : sOK s) (a b : Int) (ha : zR a) (hb : zR b) : zMi l yX5_truly cX5_truly 6 (.int) 5 120 [.inr 0, .inl a, .inl b] μ (fun (r : Int) (m : zM) => r = (tTruly s a b).1 ∧ zCl m (tTruly s a b).2 ∧ ∀ a, 31 ≤ a → a < 48 → m a = μ a) := by
  refine zMi_of (own := RX5) (by decide +kernel) rfl (Nat.le_of_ble_eq_true rfl) ?_
  intro X hX C hrm E
  subst hX
  show zJ X 6 μ 0 [(0, .inr 0), (1, .inl a), (2, .inl b)] []
  obtain ⟨hv, hk, hi, hl, hm, hw, hf⟩ := id hs
  obtain ⟨ho, hok, hoi, hon, hot, hom, how⟩ := id hso
  generalize hgv : gV s = v at hv ho
  obtain ⟨hv1, hv2, hv3, hv4, hv5, hv6, hv7⟩ := id hv
  obtain ⟨ho1, ho2, ho3, ho4, ho5, ho6, ho7⟩ := id ho
  have hN := vN_ok ho
  refine z_aload_n C dX5_truly_0 0 rfl ?_
  refine z_getR C ffX5_10 dX5_truly_1 (by decide) rfl rfl ?_
  refine z_iload_n C dX5_truly_4 1 rfl ?_
  refine z_iload_n C dX5_truly_5 2 rfl ?_
  refine z_callVi C (c_X4_areUnlike (zl X) μ 1 (Or.inl rfl) v hv ho a b (by omega) (by omega)) yyX4_areUnlike mlX5_110 (zRc_of (i := 1) C (by decide) rfl rfl) dX5_truly_6 rfl rfl (Nat.le_of_ble_eq_true rfl) (by decide) (fun r1 m1 hr1 hp1 => ?_)
  obtain ⟨rfl, hp1⟩ := hp1
  rcases hp1 with ⟨rfl, hp1⟩ | ⟨rfl, hp1⟩
  · refine z_if_ne C dX5_truly_9 (tgt := 18) (by decide) (by decide) (fun _ => ?_) (fun c2 => (by exfalso; omega))
    have hab := hp1
    refine z_aload_n C dX5_truly_18 0 rfl ?_
    refine z_getR C ffX5_36 dX5_truly_19 (by decide) rfl rfl ?_
    refine z_aload_n C dX5_truly_22 0 rfl ?_
    refine z_getR C ffX5_10 dX5_truly_23 (by decide) rfl rfl ?_
    refine z_callVv C (c_X2_hold (zl X) μ 1 (Or.inl rfl) v hv ho) yyX2_hold mlX5_104 (zRc_of (i := 18) C (by decide) rfl rfl) dX5_truly_26 rfl rfl (Nat.le_of_ble_eq_true rfl) (by decide) (fun m3 hp3 => ?_)
    have hsl := hp3.1.2.2.1 a (by omega) (by omega)
    have hslb : 0 ≤ sSl v a ∧ sSl v a < 32 := sSlN_b ho a 5
    refine z_aload_n C dX5_truly_29 0 rfl ?_
    refine z_getR C ffX5_36 dX5_truly_30 (by decide) rfl rfl ?_
    refine z_iload_n C dX5_truly_33 1 rfl ?_
    refine z_iload_n C dX5_truly_34 2 rfl ?_
    refine z_callVi C (c_X2_saysYes (zl X) m3 a b (by omega) (by omega) (by rw [hsl]; exact hslb)) yyX2_saysYes mlX5_183 (zRc_of (i := 18) C (by decide) rfl rfl) dX5_truly_35 rfl rfl (Nat.le_of_ble_eq_true rfl) (by decide) (fun r4 m4 hr4 hp4 => ?_)
    obtain ⟨rfl, hp4⟩ := hp4
    have hy0 := hp4
    rw [hsl] at hy0
    have hyr : r4 = 0 ∨ r4 = 1 := by omega
    refine z_istore_n C dX5_truly_38 (by decide) (L' := [(0, _), (1, _), (2, _), (3, _)]) rfl ?_
    refine z_aload_n C dX5_truly_39 0 rfl ?_
    refine z_getR C ffX5_16 dX5_truly_40 (by decide) rfl rfl ?_
    refine z_aload_n C dX5_truly_43 0 rfl ?_
    refine z_getR C ffX5_10 dX5_truly_44 (by decide) rfl rfl ?_
    refine z_callVv C (c_X4_become (zl X) m3 6 1 (Or.inr (Or.inl rfl)) (Or.inl rfl) (by decide) v (zT_fr hv (fun a _ _ => by rw [hp3.2 a (by omega) (by omega) (by omega)]))) yyX4_become mlX5_83 (zRc_of (i := 6) C (by decide) rfl rfl) dX5_truly_47 rfl rfl (Nat.le_of_ble_eq_true rfl) (by decide) (fun m5 hp5 => ?_)
    refine z_iconst C dX5_truly_50 ?_
    refine z_istore C dX5_truly_51 (by decide) (L' := [(0, _), (1, _), (2, _), (3, _), (4, _)]) rfl ?_
    refine z_iconst C dX5_truly_53 ?_
    refine z_istore C dX5_truly_54 (by decide) (L' := [(0, _), (1, _), (2, _), (3, _), (4, _), (5, _)]) rfl ?_
    have LP56 : ∀ (N56 : Nat) (y : Int) (z : Int) (c : Int) (mb : zM), (0 ≤ z) → (z ≤ 10) → (y = sTrN v a b z.toNat) → (zT mb 6 (vLike v a b c)) → (∀ x, (x < 6 ∨ (11 ≤ x ∧ x < 18) ∨ (29 ≤ x ∧ x < 48)) → mb x = μ x) → (11 - z).toNat < N56 → zJ X 6 mb 56 [(0, .inr 0), (1, .inl a), (2, .inl b), (3, .inl r4), (4, .inl y), (5, .inl z)] [] := by
      intro N56
      induction N56 with
      | zero => intro y z c mb h56_0 h56_1 h56_2 h56_3 h56_4 hN; exact absurd hN (Nat.not_lt_zero _)
      | succ N56 ih56 =>
        intro y z c mb h56_0 h56_1 h56_2 h56_3 h56_4 hN56
        have hyb := sTrN_b v a b z.toNat (by omega)
        refine z_iload C dX5_truly_56 5 rfl ?_
        refine z_bipush C dX5_truly_58 (by decide) ?_
        refine z_icmp_gt C dX5_truly_60 (tgt := 113) (by decide) (by omega) (by decide) (fun c6 => ?_) (fun c6 => ?_)
        · refine z_iload C dX5_truly_113 4 rfl ?_
          exact E dX5_truly_115 (by omega) rfl (t_fin (P := zCl) (show tTruly s a b = (y, s) by unfold tTruly; (first | rw [hgv] | skip); rw [if_pos (by omega), h56_2, show z.toNat = 10 by omega]) (zCl_fr hs (fun x _ => h56_4 x (by omega))) (fun a _ _ => h56_4 a (by omega)))
        · refine z_aload_n C dX5_truly_63 0 rfl ?_
          refine z_getR C ffX5_16 dX5_truly_64 (by decide) rfl rfl ?_
          refine z_iload_n C dX5_truly_67 1 rfl ?_
          refine z_iload_n C dX5_truly_68 2 rfl ?_
          refine z_iload C dX5_truly_69 5 rfl ?_
          refine z_callVv C (c_X4_setLiking (zl X) mb 6 (Or.inr (Or.inl rfl)) a b z (by omega) (by omega) (by omega)) yyX4_setLiking mlX5_118 (zRc_of (i := 6) C (by decide) rfl rfl) dX5_truly_71 rfl rfl (Nat.le_of_ble_eq_true rfl) (by decide) (fun m7 hp7 => ?_)
          have hO : vOK (vLike v a b z) := vLike_ok ho (by omega)
          have hT6 : zT m7 6 (vLike v a b z) := by rw [hp7, ← vLike_2 v a b c z]; exact zT_like h56_3 (by omega)
          refine z_aload_n C dX5_truly_74 0 rfl ?_
          refine z_getR C ffX5_36 dX5_truly_75 (by decide) rfl rfl ?_
          refine z_aload_n C dX5_truly_78 0 rfl ?_
          refine z_getR C ffX5_16 dX5_truly_79 (by decide) rfl rfl ?_
          refine z_callVv C (c_X2_hold (zl X) m7 6 (Or.inr (Or.inl rfl)) (vLike v a b z) hT6 hO) yyX2_hold mlX5_104 (zRc_of (i := 18) C (by decide) rfl rfl) dX5_truly_82 rfl rfl (Nat.le_of_ble_eq_true rfl) (by decide) (fun m8 hp8 => ?_)
          have hsz := hp8.1.2.2.1 a (by omega) (by omega)
          have hszb : 0 ≤ sSl (vLike v a b z) a ∧ sSl (vLike v a b z) a < 32 := sSlN_b hO a 5
          refine z_aload_n C dX5_truly_85 0 rfl ?_
          refine z_getR C ffX5_36 dX5_truly_86 (by decide) rfl rfl ?_
          refine z_iload_n C dX5_truly_89 1 rfl ?_
          refine z_iload_n C dX5_truly_90 2 rfl ?_
          refine z_callVi C (c_X2_saysYes (zl X) m8 a b (by omega) (by omega) (by rw [hsz]; exact hszb)) yyX2_saysYes mlX5_183 (zRc_of (i := 18) C (by decide) rfl rfl) dX5_truly_91 rfl rfl (Nat.le_of_ble_eq_true rfl) (by decide) (fun r9 m9 hr9 hp9 => ?_)
          obtain ⟨rfl, hp9⟩ := hp9
          have hz0 := hp9
          rw [hsz] at hz0
          have hzr : r9 = 0 ∨ r9 = 1 := by omega
          refine z_iload_n C dX5_truly_94 3 rfl ?_
          refine z_icmp_ne C dX5_truly_95 (tgt := 107) (by decide) (by omega) (by omega) (fun c10 => ?_) (fun c10 => ?_)
          · refine z_iinc C dX5_truly_107 5 rfl (by decide) (L' := [(0, _), (1, _), (2, _), (3, _), (4, _), (5, _)]) rfl ?_
            refine z_goto C dX5_truly_110 (tgt := 56) (by decide) ?_
            exact ih56 _ _ z m8 (by omega) (by omega) (by rw [sTrN_s v a b (by omega), if_neg (by omega), h56_2]) (zT_fr hT6 (fun x _ _ => hp8.2 x (by omega) (by omega) (by omega))) (fun x hx => by rw [hp8.2 x (by omega) (by omega) (by omega), hp7, zs_ne _ _ _ (by omega)]; exact h56_4 x hx) (by omega)
          · refine z_iload C dX5_truly_98 4 rfl ?_
            refine z_iconst C dX5_truly_100 ?_
            refine z_iload C dX5_truly_101 5 rfl ?_
            refine z_ishl C dX5_truly_103 ?_
            have hsb := zor_z y (by omega) (by omega) z (by omega) (by omega)
            refine z_ior C dX5_truly_104 ?_
            refine z_istore C dX5_truly_105 (by decide) (L' := [(0, _), (1, _), (2, _), (3, _), (4, _), (5, _)]) rfl ?_
            refine z_iinc C dX5_truly_107 5 rfl (by decide) (L' := [(0, _), (1, _), (2, _), (3, _), (4, _), (5, _)]) rfl ?_
            refine z_goto C dX5_truly_110 (tgt := 56) (by decide) ?_
            exact ih56 _ _ z m8 (by omega) (by omega) (by rw [sTrN_s v a b (by omega), if_pos (by omega), h56_2]) (zT_fr hT6 (fun x _ _ => hp8.2 x (by omega) (by omega) (by omega))) (fun x hx => by rw [hp8.2 x (by omega) (by omega) (by omega), hp7, zs_ne _ _ _ (by omega)]; exact h56_4 x hx) (by omega)
    exact LP56 _ 0 0 (vA v a b) m5 (by omega) (by omega) rfl (by rw [vLike_id]; exact hp5.1) (fun x hx => by rw [hp5.2 x (by omega), hp3.2 x (by omega) (by omega) (by omega)]) (Nat.lt_succ_self _)
  · refine z_if_ne C dX5_truly_9 (tgt := 18) (by decide) (by decide) (fun c11 => (by exfalso; omega)) (fun _ => ?_)
    refine z_aload_n C dX5_truly_12 0 rfl ?_
    refine z_iconst C dX5_truly_13 ?_
    refine z_callVi C (c_X5_refuse (zl X) μ 1 (by omega)) yyX5_refuse mlX5_65 (zRc_of (i := 0) C (by decide) rfl rfl) dX5_truly_14 rfl rfl (Nat.le_of_ble_eq_true rfl) (by decide) (fun r12 m12 hr12 hp12 => ?_)
    rw [hp12.1]
    exact E dX5_truly_17 (by decide) rfl (t_fin (P := zCl) (show tTruly s a b = ((-1), (pF s 1)) by unfold tTruly; (first | rw [hgv] | skip); repeat (first | rw [if_pos (by omega)] | rw [if_neg (by omega)])) (by rw [hp12.2]; exact zCl_F hs (by omega)) (fun a _ _ => by rw [hp12.2, zs_ne _ _ _ (by omega)]))
set_option maxHeartbeats 4000000 in
theorem c_X5_clear (l : Launch) (μ : zM) (n : Int) (hm : μ 0 9 = n) : zMi l yX5_clear cX5_clear 2 (.int) 0 0 [.inr 0] μ (fun (r : Int) (m : zM) => r = n ∧ m = zs μ 0 9 0) := by
  refine zMi_of (own := RX5) (by decide +kernel) rfl (Nat.le_of_ble_eq_true rfl) ?_
  intro X hX C hrm E
  subst hX
  show zJ X 2 μ 0 [(0, .inr 0)] []
  refine z_aload_n C dX5_clear_0 0 rfl ?_
  refine z_getI C ffX5_58 dX5_clear_1 (by decide) rfl rfl 9 rfl (fun hr1 => ?_)
  rw [hm]
  refine z_istore_n C dX5_clear_4 (by decide) (L' := [(0, _), (1, _)]) rfl ?_
  refine z_aload_n C dX5_clear_5 0 rfl ?_
  refine z_iconst C dX5_clear_6 ?_
  refine z_putI C ffX5_58 fp5_9 dX5_clear_7 (by decide) rfl rfl 9 rfl (by decide) ?_
  refine z_mem (fun m2 em2 => ?_)
  refine z_iload_n C dX5_clear_10 1 rfl ?_
  exact E dX5_clear_11 (by rw [← hm]; exact hrm 0 9) rfl ⟨rfl, (by assumption)⟩
set_option maxHeartbeats 4000000 in
theorem c_X5_judge (l : Launch) (μ : zM) (s : zS) (hs : zCl μ s) (hso : sOK s) : zMi l yX5_judge cX5_judge 6 (.int) 5 120 [.inr 0] μ (fun (r : Int) (m : zM) => r = (tJudge s).1 ∧ zCl m (tJudge s).2 ∧ ∀ a, 31 ≤ a → a < 48 → m a = μ a) := by
  refine zMi_of (own := RX5) (by decide +kernel) rfl (Nat.le_of_ble_eq_true rfl) ?_
  intro X hX C hrm E
  subst hX
  show zJ X 6 μ 0 [(0, .inr 0)] []
  obtain ⟨hv, hk, hi, hl, hm, hw, hf⟩ := id hs
  obtain ⟨ho, hok, hoi, hon, hot, hom, how⟩ := id hso
  generalize hgv : gV s = v at hv ho
  obtain ⟨hv1, hv2, hv3, hv4, hv5, hv6, hv7⟩ := id hv
  obtain ⟨ho1, ho2, ho3, ho4, ho5, ho6, ho7⟩ := id ho
  have hN := vN_ok ho
  refine z_aload_n C dX5_judge_0 0 rfl ?_
  refine z_callVi C (c_X5_clear (zl X) μ (gM s) hm) yyX5_clear mlX5_186 (zRc_of (i := 0) C (by decide) rfl rfl) dX5_judge_1 rfl rfl (Nat.le_of_ble_eq_true rfl) (by decide) (fun r1 m1 hr1 hp1 => ?_)
  rw [hp1.1]
  refine z_istore_n C dX5_judge_4 (by decide) (L' := [(0, _), (1, _)]) rfl ?_
  refine z_aload_n C dX5_judge_5 0 rfl ?_
  refine z_getR C ffX5_10 dX5_judge_6 (by decide) rfl rfl ?_
  refine z_getR C ffX5_189 dX5_judge_9 (by decide) rfl rfl ?_
  refine z_iconst C dX5_judge_12 ?_
  refine z_iald C dX5_judge_13 (by decide) rfl (by decide) (by decide) (fun hr2 => ?_)
  rw [show m1 2 0 = vL v by rw [hp1.2, zs_ne _ _ _ (by omega)]; exact hv1]
  refine z_istore_n C dX5_judge_14 (by decide) (L' := [(0, _), (1, _), (2, _)]) rfl ?_
  refine z_aload_n C dX5_judge_15 0 rfl ?_
  refine z_getR C ffX5_10 dX5_judge_16 (by decide) rfl rfl ?_
  refine z_callVi C (c_X4_howManyPeople (zl X) m1 1 (Or.inl rfl) v (zT_fr hv (fun a _ _ => by rw [hp1.2, zs_ne _ _ _ (by omega)])) ho) yyX4_howManyPeople mlX5_192 (zRc_of (i := 1) C (by decide) rfl rfl) dX5_judge_19 rfl rfl (Nat.le_of_ble_eq_true rfl) (by decide) (fun r3 m3 hr3 hp3 => ?_)
  obtain ⟨rfl, hp3⟩ := hp3
  rw [hp3]
  refine z_istore_n C dX5_judge_22 (by decide) (L' := [(0, _), (1, _), (2, _), (3, _)]) rfl ?_
  refine z_aload_n C dX5_judge_23 0 rfl ?_
  refine z_getR C ffX5_36 dX5_judge_24 (by decide) rfl rfl ?_
  refine z_aload_n C dX5_judge_27 0 rfl ?_
  refine z_getR C ffX5_10 dX5_judge_28 (by decide) rfl rfl ?_
  refine z_callVv C (c_X2_hold (zl X) m1 1 (Or.inl rfl) v (zT_fr hv (fun a _ _ => by rw [hp1.2, zs_ne _ _ _ (by omega)])) ho) yyX2_hold mlX5_104 (zRc_of (i := 18) C (by decide) rfl rfl) dX5_judge_31 rfl rfl (Nat.le_of_ble_eq_true rfl) (by decide) (fun m4 hp4 => ?_)
  refine z_iconst C dX5_judge_34 ?_
  refine z_istore C dX5_judge_35 (by decide) (L' := [(0, _), (1, _), (2, _), (3, _), (4, _)]) rfl ?_
  have LP37 : ∀ (N37 : Nat) (i : Int), (0 ≤ i) → (i ≤ gM s) → (sJd v (gW s) (gM s) = sJdF v (gW s) (gM s) (11 - i).toNat i) → (11 - i).toNat < N37 → zJ X 6 m4 37 [(0, .inr 0), (1, .inl (gM s)), (2, .inl (vL v)), (3, .inl (vL v + vR v)), (4, .inl i)] [] := by
    intro N37
    induction N37 with
    | zero => intro i h37_0 h37_1 h37_2 hN; exact absurd hN (Nat.not_lt_zero _)
    | succ N37 ih37 =>
      intro i h37_0 h37_1 h37_2 hN37
      refine z_iload C dX5_judge_37 4 rfl ?_
      refine z_iload_n C dX5_judge_39 1 rfl ?_
      refine z_icmp_ge C dX5_judge_40 (tgt := 97) (by decide) (by omega) (by omega) (fun c5 => ?_) (fun c5 => ?_)
      · refine z_iload_n C dX5_judge_97 1 rfl ?_
        refine z_iload_n C dX5_judge_98 3 rfl ?_
        refine z_icmp_ne C dX5_judge_99 (tgt := 107) (by decide) (by omega) (by omega) (fun c6 => ?_) (fun c6 => ?_)
        · refine z_iload_n C dX5_judge_107 1 rfl ?_
          refine z_iload_n C dX5_judge_108 3 rfl ?_
          refine z_callSi C (c_J9_min_7cf53 (zl X) m4 (gM s) (vL v + vR v) (by omega) (by omega)) yyJ9_min_7cf53 mlX5_195 dX5_judge_109 rfl rfl (Nat.le_of_ble_eq_true rfl) (by decide) (fun r7 m7 hr7 hp7 => ?_)
          obtain ⟨rfl, hp7⟩ := hp7
          have hmn : (if gM s ≤ vL v + vR v then gM s else vL v + vR v) = r7 := by split <;> omega
          exact E dX5_judge_112 (by omega) rfl (t_fin (P := zCl) (show tJudge s = (r7, pM s) by unfold tJudge; (first | rw [hgv] | skip); rw [h37_2, sJdF_s v (gW s) (gM s) (by omega), if_neg (by omega), if_neg (by omega), hmn]) (zCl_fr (by rw [hp1.2]; exact zCl_M hs : zCl m1 (pM s)) (fun a _ => by rw [hp4.2 a (by omega) (by omega) (by omega)])) (fun a _ _ => by rw [hp4.2 a (by omega) (by omega) (by omega), hp1.2, zs_ne _ _ _ (by omega)]))
        · refine z_bipush C dX5_judge_102 (by decide) ?_
          refine z_goto C dX5_judge_104 (tgt := 112) (by decide) ?_
          skip
          exact E dX5_judge_112 (by decide) rfl (t_fin (P := zCl) (show tJudge s = ((-9), pM s) by unfold tJudge; (first | rw [hgv] | skip); rw [h37_2, sJdF_s v (gW s) (gM s) (by omega), if_neg (by omega), if_pos (by omega)]) (zCl_fr (by rw [hp1.2]; exact zCl_M hs : zCl m1 (pM s)) (fun a _ => by rw [hp4.2 a (by omega) (by omega) (by omega)])) (fun a _ _ => by rw [hp4.2 a (by omega) (by omega) (by omega), hp1.2, zs_ne _ _ _ (by omega)]))
      · refine z_iload C dX5_judge_43 4 rfl ?_
        refine z_iload_n C dX5_judge_45 3 rfl ?_
        refine z_icmp_ge C dX5_judge_46 (tgt := 97) (by decide) (by omega) (by omega) (fun c8 => ?_) (fun c8 => ?_)
        · refine z_iload_n C dX5_judge_97 1 rfl ?_
          refine z_iload_n C dX5_judge_98 3 rfl ?_
          refine z_icmp_ne C dX5_judge_99 (tgt := 107) (by decide) (by omega) (by omega) (fun c9 => ?_) (fun c9 => ?_)
          · refine z_iload_n C dX5_judge_107 1 rfl ?_
            refine z_iload_n C dX5_judge_108 3 rfl ?_
            refine z_callSi C (c_J9_min_7cf53 (zl X) m4 (gM s) (vL v + vR v) (by omega) (by omega)) yyJ9_min_7cf53 mlX5_195 dX5_judge_109 rfl rfl (Nat.le_of_ble_eq_true rfl) (by decide) (fun r10 m10 hr10 hp10 => ?_)
            obtain ⟨rfl, hp10⟩ := hp10
            have hmn : (if gM s ≤ vL v + vR v then gM s else vL v + vR v) = r10 := by split <;> omega
            exact E dX5_judge_112 (by omega) rfl (t_fin (P := zCl) (show tJudge s = (r10, pM s) by unfold tJudge; (first | rw [hgv] | skip); rw [h37_2, sJdF_s v (gW s) (gM s) (by omega), if_neg (by omega), if_neg (by omega), hmn]) (zCl_fr (by rw [hp1.2]; exact zCl_M hs : zCl m1 (pM s)) (fun a _ => by rw [hp4.2 a (by omega) (by omega) (by omega)])) (fun a _ _ => by rw [hp4.2 a (by omega) (by omega) (by omega), hp1.2, zs_ne _ _ _ (by omega)]))
          · refine z_bipush C dX5_judge_102 (by decide) ?_
            refine z_goto C dX5_judge_104 (tgt := 112) (by decide) ?_
            skip
            exact E dX5_judge_112 (by decide) rfl (t_fin (P := zCl) (show tJudge s = ((-9), pM s) by unfold tJudge; (first | rw [hgv] | skip); rw [h37_2, sJdF_s v (gW s) (gM s) (by omega), if_neg (by omega), if_pos (by omega)]) (zCl_fr (by rw [hp1.2]; exact zCl_M hs : zCl m1 (pM s)) (fun a _ => by rw [hp4.2 a (by omega) (by omega) (by omega)])) (fun a _ _ => by rw [hp4.2 a (by omega) (by omega) (by omega), hp1.2, zs_ne _ _ _ (by omega)]))
        · refine z_iload C dX5_judge_49 4 rfl ?_
          refine z_iload_n C dX5_judge_51 2 rfl ?_
          refine z_icmp_ge C dX5_judge_52 (tgt := 60) (by decide) (by omega) (by omega) (fun c11 => ?_) (fun c11 => ?_)
          · refine z_iconst C dX5_judge_60 ?_
            refine z_iload C dX5_judge_61 4 rfl ?_
            refine z_iadd C dX5_judge_63 ?_
            refine z_iload_n C dX5_judge_64 2 rfl ?_
            refine z_isub C dX5_judge_65 ?_
            have hnth : sNth v i = ((5 + i) - (vL v)) := by unfold sNth; rw [if_neg (by omega)]
            refine z_istore C dX5_judge_66 (by decide) (L' := [(0, _), (1, _), (2, _), (3, _), (4, _), (5, _)]) rfl ?_
            refine z_aload_n C dX5_judge_68 0 rfl ?_
            refine z_getR C ffX5_54 dX5_judge_69 (by decide) rfl rfl ?_
            refine z_iload C dX5_judge_72 4 rfl ?_
            refine z_iald C dX5_judge_74 (by decide) rfl (by omega) (by decide) (fun hr12 => ?_)
            rw [show m4 29 i = gW s i by rw [hp4.2 29 (by omega) (by omega) (by omega), hp1.2, zs_ne _ _ _ (by omega)]; exact hw i (by omega) (by omega)]
            have hwb := how i (by omega) (by omega)
            refine z_aload_n C dX5_judge_75 0 rfl ?_
            refine z_getR C ffX5_36 dX5_judge_76 (by decide) rfl rfl ?_
            refine z_getR C ffX5_145 dX5_judge_79 (by decide) rfl rfl ?_
            refine z_iload C dX5_judge_82 5 rfl ?_
            refine z_iald C dX5_judge_84 (by decide) rfl (by omega) (by decide) (fun hr13 => ?_)
            rw [show m4 21 ((5 + i) - (vL v)) = sSl v (sNth v i) by rw [hnth]; exact hp4.1.2.2.1 _ (by omega) (by omega)]
            have hsb := sSlN_b ho (sNth v i) 5
            have hsb2 : 0 ≤ sSl v (sNth v i) ∧ sSl v (sNth v i) < 32 := hsb
            refine z_icmp_eq C dX5_judge_85 (tgt := 91) (by decide) (by omega) (by omega) (fun c14 => ?_) (fun c14 => ?_)
            · refine z_iinc C dX5_judge_91 4 rfl (by decide) (L' := [(0, _), (1, _), (2, _), (3, _), (4, _), (5, _)]) rfl ?_
              refine z_goto C dX5_judge_94 (tgt := 37) (by decide) ?_
              refine z_sub [0, 1, 2, 3, 4] rfl ?_; exact ih37 _ (by omega) (by omega) (by rw [h37_2, sJdF_s v (gW s) (gM s) (by omega), if_pos (by omega), if_pos (by omega)]) (by omega)
            · refine z_iload C dX5_judge_88 4 rfl ?_
              exact E dX5_judge_90 (by omega) rfl (t_fin (P := zCl) (show tJudge s = (i, pM s) by unfold tJudge; (first | rw [hgv] | skip); rw [h37_2, sJdF_s v (gW s) (gM s) (by omega), if_pos (by omega), if_neg (by omega)]) (zCl_fr (by rw [hp1.2]; exact zCl_M hs : zCl m1 (pM s)) (fun a _ => by rw [hp4.2 a (by omega) (by omega) (by omega)])) (fun a _ _ => by rw [hp4.2 a (by omega) (by omega) (by omega), hp1.2, zs_ne _ _ _ (by omega)]))
          · refine z_iload C dX5_judge_55 4 rfl ?_
            refine z_goto C dX5_judge_57 (tgt := 66) (by decide) ?_
            have hnth : sNth v i = i := by unfold sNth; rw [if_pos (by omega)]
            refine z_istore C dX5_judge_66 (by decide) (L' := [(0, _), (1, _), (2, _), (3, _), (4, _), (5, _)]) rfl ?_
            refine z_aload_n C dX5_judge_68 0 rfl ?_
            refine z_getR C ffX5_54 dX5_judge_69 (by decide) rfl rfl ?_
            refine z_iload C dX5_judge_72 4 rfl ?_
            refine z_iald C dX5_judge_74 (by decide) rfl (by omega) (by decide) (fun hr15 => ?_)
            rw [show m4 29 i = gW s i by rw [hp4.2 29 (by omega) (by omega) (by omega), hp1.2, zs_ne _ _ _ (by omega)]; exact hw i (by omega) (by omega)]
            have hwb := how i (by omega) (by omega)
            refine z_aload_n C dX5_judge_75 0 rfl ?_
            refine z_getR C ffX5_36 dX5_judge_76 (by decide) rfl rfl ?_
            refine z_getR C ffX5_145 dX5_judge_79 (by decide) rfl rfl ?_
            refine z_iload C dX5_judge_82 5 rfl ?_
            refine z_iald C dX5_judge_84 (by decide) rfl (by omega) (by decide) (fun hr16 => ?_)
            rw [show m4 21 i = sSl v (sNth v i) by rw [hnth]; exact hp4.1.2.2.1 _ (by omega) (by omega)]
            have hsb := sSlN_b ho (sNth v i) 5
            have hsb2 : 0 ≤ sSl v (sNth v i) ∧ sSl v (sNth v i) < 32 := hsb
            refine z_icmp_eq C dX5_judge_85 (tgt := 91) (by decide) (by omega) (by omega) (fun c17 => ?_) (fun c17 => ?_)
            · refine z_iinc C dX5_judge_91 4 rfl (by decide) (L' := [(0, _), (1, _), (2, _), (3, _), (4, _), (5, _)]) rfl ?_
              refine z_goto C dX5_judge_94 (tgt := 37) (by decide) ?_
              refine z_sub [0, 1, 2, 3, 4] rfl ?_; exact ih37 _ (by omega) (by omega) (by rw [h37_2, sJdF_s v (gW s) (gM s) (by omega), if_pos (by omega), if_pos (by omega)]) (by omega)
            · refine z_iload C dX5_judge_88 4 rfl ?_
              exact E dX5_judge_90 (by omega) rfl (t_fin (P := zCl) (show tJudge s = (i, pM s) by unfold tJudge; (first | rw [hgv] | skip); rw [h37_2, sJdF_s v (gW s) (gM s) (by omega), if_pos (by omega), if_neg (by omega)]) (zCl_fr (by rw [hp1.2]; exact zCl_M hs : zCl m1 (pM s)) (fun a _ => by rw [hp4.2 a (by omega) (by omega) (by omega)])) (fun a _ _ => by rw [hp4.2 a (by omega) (by omega) (by omega), hp1.2, zs_ne _ _ _ (by omega)]))
  exact LP37 _ 0 (by omega) (by omega) (by rw [Int.sub_zero]; rfl) (Nat.lt_succ_self _)
set_option maxHeartbeats 4000000 in
theorem c_X5_lots (l : Launch) (μ : zM) (s : zS) (hs : zCl μ s) (hso : sOK s) (n z : Int) (hn : zR n) (hz : zR z) : zMi l yX5_lots cX5_lots 6 (.int) 5 124 [.inr 0, .inl n, .inl z] μ (fun (r : Int) (m : zM) => r = (tLots s n z).1 ∧ zCl m (tLots s n z).2 ∧ ∀ a, 31 ≤ a → a < 48 → m a = μ a) := by
  refine zMi_of (own := RX5) (by decide +kernel) rfl (Nat.le_of_ble_eq_true rfl) ?_
  intro X hX C hrm E
  subst hX
  show zJ X 6 μ 0 [(0, .inr 0), (1, .inl n), (2, .inl z)] []
  obtain ⟨hv, hk, hi, hl, hm, hw, hf⟩ := id hs
  obtain ⟨ho, hok, hoi, hon, hot, hom, how⟩ := id hso
  generalize hgv : gV s = v at hv ho
  obtain ⟨hv1, hv2, hv3, hv4, hv5, hv6, hv7⟩ := id hv
  obtain ⟨ho1, ho2, ho3, ho4, ho5, ho6, ho7⟩ := id ho
  have hN := vN_ok ho
  refine z_iload_n C dX5_lots_0 1 rfl ?_
  refine z_iconst C dX5_lots_1 ?_
  refine z_icmp_ge C dX5_lots_2 (tgt := 12) (by decide) (by omega) (by decide) (fun c1 => ?_) (fun c1 => ?_)
  · refine z_iload_n C dX5_lots_12 1 rfl ?_
    refine z_bipush C dX5_lots_13 (by decide) ?_
    refine z_icmp_le C dX5_lots_15 (tgt := 25) (by decide) (by omega) (by decide) (fun c2 => ?_) (fun c2 => ?_)
    · refine z_aload_n C dX5_lots_25 0 rfl ?_
      refine z_getR C ffX5_16 dX5_lots_26 (by decide) rfl rfl ?_
      refine z_aload_n C dX5_lots_29 0 rfl ?_
      refine z_getR C ffX5_10 dX5_lots_30 (by decide) rfl rfl ?_
      refine z_callVv C (c_X4_become (zl X) μ 6 1 (Or.inr (Or.inl rfl)) (Or.inl rfl) (by decide) v hv) yyX4_become mlX5_83 (zRc_of (i := 6) C (by decide) rfl rfl) dX5_lots_33 rfl rfl (Nat.le_of_ble_eq_true rfl) (by decide) (fun m3 hp3 => ?_)
      refine z_iload_n C dX5_lots_36 2 rfl ?_
      refine z_istore_n C dX5_lots_37 (by decide) (L' := [(0, _), (1, _), (2, _), (3, _)]) rfl ?_
      refine z_iconst C dX5_lots_38 ?_
      refine z_istore C dX5_lots_39 (by decide) (L' := [(0, _), (1, _), (2, _), (3, _), (4, _)]) rfl ?_
      refine z_iconst C dX5_lots_41 ?_
      refine z_istore C dX5_lots_42 (by decide) (L' := [(0, _), (1, _), (2, _), (3, _), (4, _), (5, _)]) rfl ?_
      have LP44 : ∀ (N44 : Nat) (y : Int) (g : Int) (i : Int) (mb : zM), (0 ≤ i) → (i ≤ n) → (y = (sLo v z i.toNat).2.1) → (g = (sLo v z i.toNat).1) → (zT mb 6 (sLo v z i.toNat).2.2) → (∀ x, (x < 6 ∨ (11 ≤ x ∧ x < 18) ∨ (29 ≤ x ∧ x < 48)) → mb x = μ x) → (21 - i).toNat < N44 → zJ X 6 mb 44 [(0, .inr 0), (1, .inl n), (2, .inl z), (3, .inl y), (4, .inl g), (5, .inl i)] [] := by
        intro N44
        induction N44 with
        | zero => intro y g i mb h44_0 h44_1 h44_2 h44_3 h44_4 h44_5 hN; exact absurd hN (Nat.not_lt_zero _)
        | succ N44 ih44 =>
          intro y g i mb h44_0 h44_1 h44_2 h44_3 h44_4 h44_5 hN44
          have hLk := sLo_k ho hz i.toNat
          have hLb := sLo_b ho hz i.toNat
          have hyR : zR y := by rw [h44_2]; exact hLk.2.2
          have hDk := sDa_k (v := (sLo v z i.toNat).2.2) (x := ((sLo v z i.toNat).2.1, (sLo v z i.toNat).2.2)) ⟨vSame_r _, hLk.2.1, hLk.2.2⟩ 10
          have hO := hDk.2.1
          have hWW : vW (sDa (sLo v z i.toNat).2.2 10 ((sLo v z i.toNat).2.1, (sLo v z i.toNat).2.2)).2 = vW v := hDk.1.2.2.2.2.1.trans hLk.1.2.2.2.2.1
          refine z_iload C dX5_lots_44 5 rfl ?_
          refine z_iload_n C dX5_lots_46 1 rfl ?_
          refine z_icmp_ge C dX5_lots_47 (tgt := 110) (by decide) (by omega) (by omega) (fun c4 => ?_) (fun c4 => ?_)
          · refine z_iload C dX5_lots_110 4 rfl ?_
            exact E dX5_lots_112 (by omega) rfl (t_fin (P := zCl) (show tLots s n z = (g, s) by unfold tLots; (first | rw [hgv] | skip); rw [if_neg (by omega), if_neg (by omega), h44_3, show i = n by omega]) (zCl_fr hs (fun x _ => h44_5 x (by omega))) (fun a _ _ => h44_5 a (by omega)))
          · refine z_aload_n C dX5_lots_50 0 rfl ?_
            refine z_getR C ffX5_16 dX5_lots_51 (by decide) rfl rfl ?_
            refine z_iload_n C dX5_lots_54 3 rfl ?_
            refine z_callVi C (c_X4_drawLikings (zl X) mb 6 (Or.inr (Or.inl rfl)) (sLo v z i.toNat).2.2 h44_4 hLk.2.1 y hyR) yyX4_drawLikings mlX5_200 (zRc_of (i := 6) C (by decide) rfl rfl) dX5_lots_55 rfl rfl (Nat.le_of_ble_eq_true rfl) (by decide) (fun r5 m5 hr5 hp5 => ?_)
            rw [h44_2] at hp5
            rw [hp5.1]
            refine z_istore_n C dX5_lots_58 (by decide) (L' := [(0, _), (1, _), (2, _), (3, _), (4, _), (5, _)]) rfl ?_
            refine z_aload_n C dX5_lots_59 0 rfl ?_
            refine z_getR C ffX5_36 dX5_lots_60 (by decide) rfl rfl ?_
            refine z_aload_n C dX5_lots_63 0 rfl ?_
            refine z_getR C ffX5_16 dX5_lots_64 (by decide) rfl rfl ?_
            refine z_callVv C (c_X2_hold (zl X) m5 6 (Or.inr (Or.inl rfl)) (sDa (sLo v z i.toNat).2.2 10 ((sLo v z i.toNat).2.1, (sLo v z i.toNat).2.2)).2 hp5.2.1 hO) yyX2_hold mlX5_104 (zRc_of (i := 18) C (by decide) rfl rfl) dX5_lots_67 rfl rfl (Nat.le_of_ble_eq_true rfl) (by decide) (fun m6 hp6 => ?_)
            refine z_aload_n C dX5_lots_70 0 rfl ?_
            refine z_getR C ffX5_43 dX5_lots_71 (by decide) rfl rfl ?_
            refine z_aload_n C dX5_lots_74 0 rfl ?_
            refine z_getR C ffX5_16 dX5_lots_75 (by decide) rfl rfl ?_
            refine z_aload_n C dX5_lots_78 0 rfl ?_
            refine z_getR C ffX5_36 dX5_lots_79 (by decide) rfl rfl ?_
            refine z_aload_n C dX5_lots_82 0 rfl ?_
            refine z_getR C ffX5_16 dX5_lots_83 (by decide) rfl rfl ?_
            refine z_getI C ffX5_131 dX5_lots_86 (by decide) rfl rfl 6 rfl (fun hr7 => ?_)
            rw [show m6 6 6 = vW v by rw [hp6.2 6 (by omega) (by omega) (by omega), hp5.2.1.2.2.2.2.1, hWW]]
            refine z_callVv C (c_X1_settle (zl X) m6 6 (Or.inr (Or.inl rfl)) (sDa (sLo v z i.toNat).2.2 10 ((sLo v z i.toNat).2.1, (sLo v z i.toNat).2.2)).2 (zT_fr hp5.2.1 (fun a _ _ => by rw [hp6.2 a (by omega) (by omega) (by omega)])) hO hp6.1 (vW v) (by omega)) yyX1_settle mlX5_151 (zRc_of (i := 22) C (by decide) rfl rfl) dX5_lots_89 rfl rfl (Nat.le_of_ble_eq_true rfl) (by decide) (fun m8 hp8 => ?_)
            refine z_iload C dX5_lots_92 4 rfl ?_
            refine z_aload_n C dX5_lots_94 0 rfl ?_
            refine z_getR C ffX5_43 dX5_lots_95 (by decide) rfl rfl ?_
            refine z_callVi C (c_X1_howMany (zl X) m8 (sPb (sVl (sDa (sLo v z i.toNat).2.2 10 ((sLo v z i.toNat).2.1, (sLo v z i.toNat).2.2)).2 (vW v))) (fun p p0 p1 => ⟨hp8.1 p p0 (by omega), sPbN_b _ p 5 (by omega)⟩)) yyX1_howMany mlX5_155 (zRc_of (i := 22) C (by decide) rfl rfl) dX5_lots_98 rfl rfl (Nat.le_of_ble_eq_true rfl) (by decide) (fun r9 m9 hr9 hp9 => ?_)
            obtain ⟨rfl, hp9⟩ := hp9
            have hX : r9 = sPr (sDa (sLo v z i.toNat).2.2 10 ((sLo v z i.toNat).2.1, (sLo v z i.toNat).2.2)).2 (vW v) := hp9
            rw [hX]
            have hXb := sPr_b hO (vW v)
            refine z_iadd C dX5_lots_101 ?_
            refine z_istore C dX5_lots_102 (by decide) (L' := [(0, _), (1, _), (2, _), (3, _), (4, _), (5, _)]) rfl ?_
            refine z_iinc C dX5_lots_104 5 rfl (by decide) (L' := [(0, _), (1, _), (2, _), (3, _), (4, _), (5, _)]) rfl ?_
            refine z_goto C dX5_lots_107 (tgt := 44) (by decide) ?_
            exact ih44 _ _ _ m8 (by omega) (by omega) (by rw [sLo_s v z (by omega)]) (by rw [sLo_s v z (by omega), h44_3]) (by rw [sLo_s v z (by omega)]; exact zT_fr hp5.2.1 (fun a _ _ => by rw [hp8.2 a (by omega), hp6.2 a (by omega) (by omega) (by omega)])) (fun x hx => by rw [hp8.2 x (by omega), hp6.2 x (by omega) (by omega) (by omega), hp5.2.2 x (by omega)]; exact h44_5 x hx) (by omega)
      exact LP44 _ z 0 0 m3 (by omega) (by omega) rfl rfl hp3.1 (fun x hx => by rw [hp3.2 x (by omega)]) (Nat.lt_succ_self _)
    · refine z_aload_n C dX5_lots_18 0 rfl ?_
      refine z_bipush C dX5_lots_19 (by decide) ?_
      refine z_callVi C (c_X5_refuse (zl X) μ 6 (by omega)) yyX5_refuse mlX5_65 (zRc_of (i := 0) C (by decide) rfl rfl) dX5_lots_21 rfl rfl (Nat.le_of_ble_eq_true rfl) (by decide) (fun r10 m10 hr10 hp10 => ?_)
      rw [hp10.1]
      exact E dX5_lots_24 (by decide) rfl (t_fin (P := zCl) (show tLots s n z = ((-6), (pF s 6)) by unfold tLots; (first | rw [hgv] | skip); repeat (first | rw [if_pos (by omega)] | rw [if_neg (by omega)])) (by rw [hp10.2]; exact zCl_F hs (by omega)) (fun a _ _ => by rw [hp10.2, zs_ne _ _ _ (by omega)]))
  · refine z_aload_n C dX5_lots_5 0 rfl ?_
    refine z_bipush C dX5_lots_6 (by decide) ?_
    refine z_callVi C (c_X5_refuse (zl X) μ 4 (by omega)) yyX5_refuse mlX5_65 (zRc_of (i := 0) C (by decide) rfl rfl) dX5_lots_8 rfl rfl (Nat.le_of_ble_eq_true rfl) (by decide) (fun r11 m11 hr11 hp11 => ?_)
    rw [hp11.1]
    exact E dX5_lots_11 (by decide) rfl (t_fin (P := zCl) (show tLots s n z = ((-4), (pF s 4)) by unfold tLots; (first | rw [hgv] | skip); repeat (first | rw [if_pos (by omega)] | rw [if_neg (by omega)])) (by rw [hp11.2]; exact zCl_F hs (by omega)) (fun a _ _ => by rw [hp11.2, zs_ne _ _ _ (by omega)]))
set_option maxHeartbeats 4000000 in
theorem c_X5_image (l : Launch) (μ : zM) (s : zS) (hs : zCl μ s) (hso : sOK s) : zMi l yX5_image cX5_image 1 (.int) 2 89 [.inr 0] μ (fun (r : Int) (m : zM) => r = (tImage s).1 ∧ zCl m (tImage s).2 ∧ ∀ a, 31 ≤ a → a < 48 → m a = μ a) := by
  refine zMi_of (own := RX5) (by decide +kernel) rfl (Nat.le_of_ble_eq_true rfl) ?_
  intro X hX C hrm E
  subst hX
  show zJ X 1 μ 0 [(0, .inr 0)] []
  obtain ⟨hv, hk, hi, hl, hm, hw, hf⟩ := id hs
  obtain ⟨ho, hok, hoi, hon, hot, hom, how⟩ := id hso
  generalize hgv : gV s = v at hv ho
  obtain ⟨hv1, hv2, hv3, hv4, hv5, hv6, hv7⟩ := id hv
  obtain ⟨ho1, ho2, ho3, ho4, ho5, ho6, ho7⟩ := id ho
  have hN := vN_ok ho
  refine z_aload_n C dX5_image_0 0 rfl ?_
  refine z_getR C ffX5_19 dX5_image_1 (by decide) rfl rfl ?_
  refine z_aload_n C dX5_image_4 0 rfl ?_
  refine z_getR C ffX5_10 dX5_image_5 (by decide) rfl rfl ?_
  refine z_callVv C (c_X4_become (zl X) μ 11 1 (Or.inr (Or.inr rfl)) (Or.inl rfl) (by decide) v hv) yyX4_become mlX5_83 (zRc_of (i := 11) C (by decide) rfl rfl) dX5_image_8 rfl rfl (Nat.le_of_ble_eq_true rfl) (by decide) (fun m1 hp1 => ?_)
  refine z_aload_n C dX5_image_11 0 rfl ?_
  refine z_iconst C dX5_image_12 ?_
  refine z_putW C ffX5_22 fp5_3 dX5_image_13 (by decide) rfl rfl 3 rfl (by decide) (by decide) (by decide) rfl ?_
  refine z_mem (fun m2 em2 => ?_)
  refine z_aload_n C dX5_image_16 0 rfl ?_
  refine z_getR C ffX5_10 dX5_image_17 (by decide) rfl rfl ?_
  refine z_callVi C (c_X4_howManyPeople (zl X) m2 1 (Or.inl rfl) v (zT_fr hv (fun a _ _ => by rw [em2, zs_ne _ _ _ (by omega), hp1.2 a (by omega)])) ho) yyX4_howManyPeople mlX5_192 (zRc_of (i := 1) C (by decide) rfl rfl) dX5_image_20 rfl rfl (Nat.le_of_ble_eq_true rfl) (by decide) (fun r3 m3 hr3 hp3 => ?_)
  obtain ⟨rfl, hp3⟩ := hp3
  rw [hp3]
  exact E dX5_image_23 (by omega) rfl (t_fin (P := zCl) (show tImage s = (vL v + vR v, pI s v) by unfold tImage; (first | rw [hgv] | skip); repeat (first | rw [if_pos (by omega)] | rw [if_neg (by omega)])) (zCl_I hs (zT_fr hp1.1 (fun a _ _ => by rw [em2, zs_ne _ _ _ (by omega)])) (by rw [em2, zs_self]) (by rw [em2, zs_ne2 _ _ _ (by omega), hp1.2 0 (by omega)]) (fun a _ => by rw [em2, zs_ne _ _ _ (by omega), hp1.2 a (by omega)])) (fun a _ _ => by rw [em2, zs_ne _ _ _ (by omega), hp1.2 a (by omega)]))
set_option maxHeartbeats 4000000 in
theorem c_X5_on (l : Launch) (μ : zM) (s : zS) (hs : zCl μ s) (hso : sOK s) : zMi l yX5_on cX5_on 1 (.int) 2 89 [.inr 0] μ (fun (r : Int) (m : zM) => r = (tOn s).1 ∧ zCl m (tOn s).2 ∧ ∀ a, 31 ≤ a → a < 48 → m a = μ a) := by
  refine zMi_of (own := RX5) (by decide +kernel) rfl (Nat.le_of_ble_eq_true rfl) ?_
  intro X hX C hrm E
  subst hX
  show zJ X 1 μ 0 [(0, .inr 0)] []
  obtain ⟨hv, hk, hi, hl, hm, hw, hf⟩ := id hs
  obtain ⟨ho, hok, hoi, hon, hot, hom, how⟩ := id hso
  generalize hgv : gV s = v at hv ho
  obtain ⟨hv1, hv2, hv3, hv4, hv5, hv6, hv7⟩ := id hv
  obtain ⟨ho1, ho2, ho3, ho4, ho5, ho6, ho7⟩ := id ho
  have hN := vN_ok ho
  refine z_aload_n C dX5_on_0 0 rfl ?_
  refine z_getI C ffX5_22 dX5_on_1 (by decide) rfl rfl 3 rfl (fun hr1 => ?_)
  rw [hk]
  refine z_if_ne C dX5_on_4 (tgt := 14) (by decide) (by omega) (fun c2 => ?_) (fun c2 => ?_)
  · refine z_aload_n C dX5_on_14 0 rfl ?_
    refine z_getR C ffX5_10 dX5_on_15 (by decide) rfl rfl ?_
    refine z_aload_n C dX5_on_18 0 rfl ?_
    refine z_getR C ffX5_19 dX5_on_19 (by decide) rfl rfl ?_
    refine z_callVv C (c_X4_become (zl X) μ 1 11 (Or.inl rfl) (Or.inr (Or.inr rfl)) (by decide) (gI s) hi) yyX4_become mlX5_83 (zRc_of (i := 1) C (by decide) rfl rfl) dX5_on_22 rfl rfl (Nat.le_of_ble_eq_true rfl) (by decide) (fun m3 hp3 => ?_)
    refine z_aload_n C dX5_on_25 0 rfl ?_
    refine z_getR C ffX5_10 dX5_on_26 (by decide) rfl rfl ?_
    refine z_callVi C (c_X4_howManyPeople (zl X) m3 1 (Or.inl rfl) (gI s) hp3.1 hoi) yyX4_howManyPeople mlX5_192 (zRc_of (i := 1) C (by decide) rfl rfl) dX5_on_29 rfl rfl (Nat.le_of_ble_eq_true rfl) (by decide) (fun r4 m4 hr4 hp4 => ?_)
    obtain ⟨rfl, hp4⟩ := hp4
    rw [hp4]
    have hib : 0 ≤ vL (gI s) ∧ vL (gI s) ≤ 5 ∧ 0 ≤ vR (gI s) ∧ vR (gI s) ≤ 5 := ⟨hoi.1.1, hoi.1.2, hoi.2.1.1, hoi.2.1.2⟩
    exact E dX5_on_32 (by omega) rfl (t_fin (P := zCl) (show tOn s = (vL (gI s) + vR (gI s), pV s (gI s)) by unfold tOn; (first | rw [hgv] | skip); repeat (first | rw [if_pos (by omega)] | rw [if_neg (by omega)])) (zCl_V hs hp3.1 (fun a _ => by rw [hp3.2 a (by omega)])) (fun a _ _ => by rw [hp3.2 a (by omega)]))
  · refine z_aload_n C dX5_on_7 0 rfl ?_
    refine z_bipush C dX5_on_8 (by decide) ?_
    refine z_callVi C (c_X5_refuse (zl X) μ 3 (by omega)) yyX5_refuse mlX5_65 (zRc_of (i := 0) C (by decide) rfl rfl) dX5_on_10 rfl rfl (Nat.le_of_ble_eq_true rfl) (by decide) (fun r5 m5 hr5 hp5 => ?_)
    rw [hp5.1]
    exact E dX5_on_13 (by decide) rfl (t_fin (P := zCl) (show tOn s = ((-3), (pF s 3)) by unfold tOn; (first | rw [hgv] | skip); repeat (first | rw [if_pos (by omega)] | rw [if_neg (by omega)])) (by rw [hp5.2]; exact zCl_F hs (by omega)) (fun a _ _ => by rw [hp5.2, zs_ne _ _ _ (by omega)]))
set_option maxHeartbeats 4000000 in
theorem c_X5_count (l : Launch) (μ : zM) (s : zS) (hs : zCl μ s) (hso : sOK s) (w : Int) (hwr : zR w) : zMi l yX5_count cX5_count 2 (.int) 5 120 [.inr 0, .inl w] μ (fun (r : Int) (m : zM) => r = (tCount s w).1 ∧ zCl m (tCount s w).2 ∧ ∀ a, 31 ≤ a → a < 48 → m a = μ a) := by
  refine zMi_of (own := RX5) (by decide +kernel) rfl (Nat.le_of_ble_eq_true rfl) ?_
  intro X hX C hrm E
  subst hX
  show zJ X 2 μ 0 [(0, .inr 0), (1, .inl w)] []
  obtain ⟨hv, hk, hi, hl, hm, hw, hf⟩ := id hs
  obtain ⟨ho, hok, hoi, hon, hot, hom, how⟩ := id hso
  generalize hgv : gV s = v at hv ho
  obtain ⟨hv1, hv2, hv3, hv4, hv5, hv6, hv7⟩ := id hv
  obtain ⟨ho1, ho2, ho3, ho4, ho5, ho6, ho7⟩ := id ho
  have hN := vN_ok ho
  obtain ⟨x1, x2, x3⟩ := id hl
  refine z_iload_n C dX5_count_0 1 rfl ?_
  by_cases e1_0 : w = 0
  · refine z_tabIn C dX5_count_1 (by omega) 0 (by omega) (by omega) (off := 51) (tgt := 52) rfl (by decide) ?_
    refine z_aload_n C dX5_count_52 0 rfl ?_
    refine z_getR C ffX5_10 dX5_count_53 (by decide) rfl rfl ?_
    refine z_getR C ffX5_189 dX5_count_56 (by decide) rfl rfl ?_
    refine z_iconst C dX5_count_59 ?_
    refine z_iald C dX5_count_60 (by decide) rfl (by decide) (by decide) (fun hr2 => ?_)
    rw [hv1]
    exact E dX5_count_61 (by omega) rfl (t_fin (P := zCl) (show tCount s w = ((vL v), s) by unfold tCount; (first | rw [hgv] | skip); repeat (first | rw [if_pos (by omega)] | rw [if_neg (by omega)])) hs (fun a _ _ => rfl))
  by_cases e1_1 : w = 1
  · refine z_tabIn C dX5_count_1 (by omega) 1 (by omega) (by omega) (off := 61) (tgt := 62) rfl (by decide) ?_
    refine z_aload_n C dX5_count_62 0 rfl ?_
    refine z_getR C ffX5_10 dX5_count_63 (by decide) rfl rfl ?_
    refine z_getR C ffX5_189 dX5_count_66 (by decide) rfl rfl ?_
    refine z_iconst C dX5_count_69 ?_
    refine z_iald C dX5_count_70 (by decide) rfl (by decide) (by decide) (fun hr3 => ?_)
    rw [hv2]
    exact E dX5_count_71 (by omega) rfl (t_fin (P := zCl) (show tCount s w = ((vR v), s) by unfold tCount; (first | rw [hgv] | skip); repeat (first | rw [if_pos (by omega)] | rw [if_neg (by omega)])) hs (fun a _ _ => rfl))
  by_cases e1_2 : w = 2
  · refine z_tabIn C dX5_count_1 (by omega) 2 (by omega) (by omega) (off := 71) (tgt := 72) rfl (by decide) ?_
    refine z_aload_n C dX5_count_72 0 rfl ?_
    refine z_getR C ffX5_10 dX5_count_73 (by decide) rfl rfl ?_
    refine z_callVi C (c_X4_rounds (zl X) μ 1 (Or.inl rfl) v hv ho) yyX4_rounds mlX5_203 (zRc_of (i := 1) C (by decide) rfl rfl) dX5_count_76 rfl rfl (Nat.le_of_ble_eq_true rfl) (by decide) (fun r4 m4 hr4 hp4 => ?_)
    obtain ⟨rfl, hp4⟩ := hp4
    rw [hp4]
    exact E dX5_count_79 (by omega) rfl (t_fin (P := zCl) (show tCount s w = ((vN v), s) by unfold tCount; (first | rw [hgv] | skip); repeat (first | rw [if_pos (by omega)] | rw [if_neg (by omega)])) hs (fun a _ _ => rfl))
  by_cases e1_3 : w = 3
  · refine z_tabIn C dX5_count_1 (by omega) 3 (by omega) (by omega) (off := 79) (tgt := 80) rfl (by decide) ?_
    refine z_aload_n C dX5_count_80 0 rfl ?_
    refine z_getR C ffX5_10 dX5_count_81 (by decide) rfl rfl ?_
    refine z_getI C ffX5_122 dX5_count_84 (by decide) rfl rfl 4 rfl (fun hr5 => ?_)
    rw [hv3]
    exact E dX5_count_87 (by omega) rfl (t_fin (P := zCl) (show tCount s w = ((vS v), s) by unfold tCount; (first | rw [hgv] | skip); repeat (first | rw [if_pos (by omega)] | rw [if_neg (by omega)])) hs (fun a _ _ => rfl))
  by_cases e1_4 : w = 4
  · refine z_tabIn C dX5_count_1 (by omega) 4 (by omega) (by omega) (off := 87) (tgt := 88) rfl (by decide) ?_
    refine z_aload_n C dX5_count_88 0 rfl ?_
    refine z_getR C ffX5_10 dX5_count_89 (by decide) rfl rfl ?_
    refine z_getI C ffX5_125 dX5_count_92 (by decide) rfl rfl 5 rfl (fun hr6 => ?_)
    rw [hv4]
    exact E dX5_count_95 (by omega) rfl (t_fin (P := zCl) (show tCount s w = ((vH v), s) by unfold tCount; (first | rw [hgv] | skip); repeat (first | rw [if_pos (by omega)] | rw [if_neg (by omega)])) hs (fun a _ _ => rfl))
  by_cases e1_5 : w = 5
  · refine z_tabIn C dX5_count_1 (by omega) 5 (by omega) (by omega) (off := 95) (tgt := 96) rfl (by decide) ?_
    refine z_aload_n C dX5_count_96 0 rfl ?_
    refine z_getR C ffX5_10 dX5_count_97 (by decide) rfl rfl ?_
    refine z_getI C ffX5_131 dX5_count_100 (by decide) rfl rfl 6 rfl (fun hr7 => ?_)
    rw [hv5]
    exact E dX5_count_103 (by omega) rfl (t_fin (P := zCl) (show tCount s w = ((vW v), s) by unfold tCount; (first | rw [hgv] | skip); repeat (first | rw [if_pos (by omega)] | rw [if_neg (by omega)])) hs (fun a _ _ => rfl))
  by_cases e1_6 : w = 6
  · refine z_tabIn C dX5_count_1 (by omega) 6 (by omega) (by omega) (off := 103) (tgt := 104) rfl (by decide) ?_
    refine z_aload_n C dX5_count_104 0 rfl ?_
    refine z_getR C ffX5_36 dX5_count_105 (by decide) rfl rfl ?_
    refine z_aload_n C dX5_count_108 0 rfl ?_
    refine z_getR C ffX5_10 dX5_count_109 (by decide) rfl rfl ?_
    refine z_callVv C (c_X2_hold (zl X) μ 1 (Or.inl rfl) v hv ho) yyX2_hold mlX5_104 (zRc_of (i := 18) C (by decide) rfl rfl) dX5_count_112 rfl rfl (Nat.le_of_ble_eq_true rfl) (by decide) (fun m8 hp8 => ?_)
    refine z_aload_n C dX5_count_115 0 rfl ?_
    refine z_getR C ffX5_36 dX5_count_116 (by decide) rfl rfl ?_
    refine z_aload_n C dX5_count_119 0 rfl ?_
    refine z_getR C ffX5_10 dX5_count_120 (by decide) rfl rfl ?_
    refine z_callVi C (c_X2_allGaps (zl X) m8 1 (Or.inl rfl) v (zT_fr hv (fun a _ _ => by rw [hp8.2 a (by omega) (by omega) (by omega)])) ho hp8.1) yyX2_allGaps mlX5_205 (zRc_of (i := 18) C (by decide) rfl rfl) dX5_count_123 rfl rfl (Nat.le_of_ble_eq_true rfl) (by decide) (fun r9 m9 hr9 hp9 => ?_)
    obtain ⟨rfl, hp9⟩ := hp9
    rw [hp9]
    have hgb := sGaN_b ho 10
    exact E dX5_count_126 (by omega) rfl (t_fin (P := zCl) (show tCount s w = ((sGaN v 10), s) by unfold tCount; (first | rw [hgv] | skip); repeat (first | rw [if_pos (by omega)] | rw [if_neg (by omega)])) (zCl_fr hs (fun a _ => by rw [hp8.2 a (by omega) (by omega) (by omega)])) (fun a _ _ => by rw [hp8.2 a (by omega) (by omega) (by omega)]))
  by_cases e1_7 : w = 7
  · refine z_tabIn C dX5_count_1 (by omega) 7 (by omega) (by omega) (off := 126) (tgt := 127) rfl (by decide) ?_
    refine z_aload_n C dX5_count_127 0 rfl ?_
    refine z_getI C ffX5_58 dX5_count_128 (by decide) rfl rfl 9 rfl (fun hr10 => ?_)
    rw [hm]
    exact E dX5_count_131 (by omega) rfl (t_fin (P := zCl) (show tCount s w = ((gM s), s) by unfold tCount; (first | rw [hgv] | skip); repeat (first | rw [if_pos (by omega)] | rw [if_neg (by omega)])) hs (fun a _ _ => rfl))
  by_cases e1_8 : w = 8
  · refine z_tabIn C dX5_count_1 (by omega) 8 (by omega) (by omega) (off := 131) (tgt := 132) rfl (by decide) ?_
    refine z_aload_n C dX5_count_132 0 rfl ?_
    refine z_getR C ffX5_29 dX5_count_133 (by decide) rfl rfl ?_
    refine z_getI C ffX5_208 dX5_count_136 (by decide) rfl rfl 1 rfl (fun hr11 => ?_)
    rw [x1]
    exact E dX5_count_139 (by omega) rfl (t_fin (P := zCl) (show tCount s w = ((gN s), s) by unfold tCount; (first | rw [hgv] | skip); repeat (first | rw [if_pos (by omega)] | rw [if_neg (by omega)])) hs (fun a _ _ => rfl))
  refine z_tabOut C dX5_count_1 (by omega) (by omega) (tgt := 140) (by decide) ?_
  refine z_iload_n C dX5_count_140 1 rfl ?_
  refine z_bipush C dX5_count_141 (by decide) ?_
  refine z_icmp_lt C dX5_count_143 (tgt := 164) (by decide) (by omega) (by decide) (fun c12 => ?_) (fun c12 => ?_)
  · refine z_bipush C dX5_count_164 (by decide) ?_
    exact E dX5_count_166 (by decide) rfl (t_fin (P := zCl) (show tCount s w = ((-9), s) by unfold tCount; (first | rw [hgv] | skip); repeat (first | rw [if_pos (by omega)] | rw [if_neg (by omega)])) hs (fun a _ _ => rfl))
  · refine z_iload_n C dX5_count_146 1 rfl ?_
    refine z_bipush C dX5_count_147 (by decide) ?_
    refine z_icmp_gt C dX5_count_149 (tgt := 164) (by decide) (by omega) (by decide) (fun c13 => ?_) (fun c13 => ?_)
    · refine z_bipush C dX5_count_164 (by decide) ?_
      exact E dX5_count_166 (by decide) rfl (t_fin (P := zCl) (show tCount s w = ((-9), s) by unfold tCount; (first | rw [hgv] | skip); repeat (first | rw [if_pos (by omega)] | rw [if_neg (by omega)])) hs (fun a _ _ => rfl))
    · refine z_aload_n C dX5_count_152 0 rfl ?_
      refine z_getR C ffX5_62 dX5_count_153 (by decide) rfl rfl ?_
      refine z_iload_n C dX5_count_156 1 rfl ?_
      refine z_bipush C dX5_count_157 (by decide) ?_
      refine z_isub C dX5_count_159 ?_
      refine z_iald C dX5_count_160 (by decide) rfl (by omega) (by decide) (fun hr14 => ?_)
      refine z_goto C dX5_count_161 (tgt := 166) (by decide) ?_
      rw [hf (w - 10) (by omega) (by omega)]
      have hfb : zR (gF s (w - 10)) := by rw [← hf (w - 10) (by omega) (by omega)]; exact hrm 30 (w - 10)
      exact E dX5_count_166 (by omega) rfl (t_fin (P := zCl) (show tCount s w = ((gF s (w - 10)), s) by unfold tCount; (first | rw [hgv] | skip); repeat (first | rw [if_pos (by omega)] | rw [if_neg (by omega)])) hs (fun a _ _ => rfl))
