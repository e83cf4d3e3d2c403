/-! contracts: the reference: ways to hold -/
theorem sFwR_n (v : zVw) (h : Int → Int) (l : Int) (hl : 0 ≤ l) : ∀ (f : Nat) (b : Int), 0 ≤ b → sFwR v h l f b = -9 ∨ 0 ≤ sFwR v h l f b := fun f b hb => by
  have := sFwR_b v h l f b hb
  omega
theorem sFw_n (v : zVw) (h : Int → Int) : sFw v h = -9 ∨ 0 ≤ sFw v h := by
  have key : ∀ (f : Nat) (a : Int), 0 ≤ a → sFwL v h f a = -9 ∨ 0 ≤ sFwL v h f a := by
    intro f
    induction f with
    | zero => intro a _; exact Or.inl rfl
    | succ f ih =>
      intro a ha
      have h2 := sFwR_n v h a ha (vR v).toNat 0 (by omega)
      rw [sFwL]
      split
      · exact ih _ (by omega)
      · exact h2
  exact key _ 0 (by omega)
set_option maxHeartbeats 4000000 in
theorem c_X6_wouldRather (l : Launch) (μ : zM) (v : zVw) (hq : zQ μ v) (ho : vOK v) (h : Int → Int) (hh : zWy μ h) (p q : Int) (hl : 0 ≤ p ∧ p < 5) (hr : 0 ≤ q ∧ q < 5) : zMi l yX6_wouldRather cX6_wouldRather 4 (.boolean) 0 0 [.inr 31, .inl p, .inl q] μ (fun (r : Int) (m : zM) => μ = m ∧ ((r = 1 ∧ (sBo v h p q)) ∨ (r = 0 ∧ ¬ (sBo v h p q)))) := by
  refine zMi_of (own := RX6) (by decide +kernel) rfl (Nat.le_of_ble_eq_true rfl) ?_
  intro X hX C hrm E
  subst hX
  show zJ X 4 μ 0 [(0, .inr 31), (1, .inl p), (2, .inl q)] []
  obtain ⟨hq1, hq2, hq3, hq4, hq5, hq6, hq7⟩ := id hq
  obtain ⟨ho1, ho2, ho3, ho4, ho5, ho6, ho7⟩ := id ho
  have hN := vN_ok ho
  have g1 := (hh p hl.1 hl.2).1
  have g2 := (hh q hr.1 hr.2).2
  have h71 := ho7 p (5 + q) (by omega)
  have h72 := ho7 (5 + q) p (by omega)
  refine z_aload_n C dX6_wouldRather_0 0 rfl ?_
  refine z_getR C ffX6_77 dX6_wouldRather_1 (by decide) rfl rfl ?_
  refine z_iload_n C dX6_wouldRather_4 1 rfl ?_
  refine z_iald C dX6_wouldRather_5 (by decide) rfl (by omega) (by decide) (fun hr1 => ?_)
  refine z_if_lt C dX6_wouldRather_6 (tgt := 37) (by decide) (by omega) (fun c2 => ?_) (fun c2 => ?_)
  · refine z_iconst C dX6_wouldRather_37 ?_
    refine z_goto C dX6_wouldRather_38 (tgt := 42) (by decide) ?_
    refine z_istore_n C dX6_wouldRather_42 (by decide) (L' := [(0, _), (1, _), (2, _), (3, _)]) rfl ?_
    refine z_iload_n C dX6_wouldRather_43 3 rfl ?_
    refine z_if_eq C dX6_wouldRather_44 (tgt := 94) (by decide) (by decide) (fun c3 => (by exfalso; omega)) (fun _ => ?_)
    refine z_aload_n C dX6_wouldRather_47 0 rfl ?_
    refine z_getR C ffX6_80 dX6_wouldRather_48 (by decide) rfl rfl ?_
    refine z_iload_n C dX6_wouldRather_51 2 rfl ?_
    refine z_iald C dX6_wouldRather_52 (by decide) rfl (by omega) (by decide) (fun hr4 => ?_)
    refine z_if_lt C dX6_wouldRather_53 (tgt := 90) (by decide) (by omega) (fun c5 => ?_) (fun c5 => ?_)
    · refine z_iconst C dX6_wouldRather_90 ?_
      refine z_goto C dX6_wouldRather_91 (tgt := 95) (by decide) ?_
      exact E dX6_wouldRather_95 (by decide) (z_nb (Or.inr rfl)) ⟨rfl, Or.inl ⟨rfl, by omega⟩⟩
    · refine z_aload_n C dX6_wouldRather_56 0 rfl ?_
      refine z_getR C ffX6_38 dX6_wouldRather_57 (by decide) rfl rfl ?_
      refine z_bipush C dX6_wouldRather_60 (by decide) ?_
      refine z_iconst C dX6_wouldRather_62 ?_
      refine z_iload_n C dX6_wouldRather_63 2 rfl ?_
      refine z_imul C dX6_wouldRather_64 ?_
      refine z_iadd C dX6_wouldRather_65 ?_
      refine z_iload_n C dX6_wouldRather_66 1 rfl ?_
      refine z_iadd C dX6_wouldRather_67 ?_
      refine z_iald C dX6_wouldRather_68 (by decide) rfl (by omega) (by decide) (fun hr6 => ?_)
      rw [lk_r hq hl hr]
      refine z_aload_n C dX6_wouldRather_69 0 rfl ?_
      refine z_getR C ffX6_38 dX6_wouldRather_70 (by decide) rfl rfl ?_
      refine z_bipush C dX6_wouldRather_73 (by decide) ?_
      refine z_iconst C dX6_wouldRather_75 ?_
      refine z_iload_n C dX6_wouldRather_76 2 rfl ?_
      refine z_imul C dX6_wouldRather_77 ?_
      refine z_iadd C dX6_wouldRather_78 ?_
      refine z_aload_n C dX6_wouldRather_79 0 rfl ?_
      refine z_getR C ffX6_80 dX6_wouldRather_80 (by decide) rfl rfl ?_
      refine z_iload_n C dX6_wouldRather_83 2 rfl ?_
      refine z_iald C dX6_wouldRather_84 (by decide) rfl (by omega) (by decide) (fun hr7 => ?_)
      refine z_iadd C dX6_wouldRather_85 ?_
      refine z_iald C dX6_wouldRather_86 (by decide) rfl (by omega) (by decide) (fun hr8 => ?_)
      rw [lk_r hq (by omega) hr]
      have hhr : h (5 + q) = μ 43 q := by omega
      rw [← hhr]
      have h74 := ho7 (5 + q) (h (5 + q)) (by omega)
      refine z_icmp_le C dX6_wouldRather_87 (tgt := 94) (by decide) (by omega) (by omega) (fun c9 => ?_) (fun c9 => ?_)
      · refine z_iconst C dX6_wouldRather_94 ?_
        exact E dX6_wouldRather_95 (by decide) (z_nb (Or.inl rfl)) ⟨rfl, Or.inr ⟨rfl, by omega⟩⟩
      · refine z_iconst C dX6_wouldRather_90 ?_
        refine z_goto C dX6_wouldRather_91 (tgt := 95) (by decide) ?_
        exact E dX6_wouldRather_95 (by decide) (z_nb (Or.inr rfl)) ⟨rfl, Or.inl ⟨rfl, by omega⟩⟩
  · refine z_aload_n C dX6_wouldRather_9 0 rfl ?_
    refine z_getR C ffX6_38 dX6_wouldRather_10 (by decide) rfl rfl ?_
    refine z_iconst C dX6_wouldRather_13 ?_
    refine z_iload_n C dX6_wouldRather_14 1 rfl ?_
    refine z_imul C dX6_wouldRather_15 ?_
    refine z_iload_n C dX6_wouldRather_16 2 rfl ?_
    refine z_iadd C dX6_wouldRather_17 ?_
    refine z_iald C dX6_wouldRather_18 (by decide) rfl (by omega) (by decide) (fun hr10 => ?_)
    rw [lk_l hq hl hr]
    refine z_aload_n C dX6_wouldRather_19 0 rfl ?_
    refine z_getR C ffX6_38 dX6_wouldRather_20 (by decide) rfl rfl ?_
    refine z_iconst C dX6_wouldRather_23 ?_
    refine z_iload_n C dX6_wouldRather_24 1 rfl ?_
    refine z_imul C dX6_wouldRather_25 ?_
    refine z_aload_n C dX6_wouldRather_26 0 rfl ?_
    refine z_getR C ffX6_77 dX6_wouldRather_27 (by decide) rfl rfl ?_
    refine z_iload_n C dX6_wouldRather_30 1 rfl ?_
    refine z_iald C dX6_wouldRather_31 (by decide) rfl (by omega) (by decide) (fun hr11 => ?_)
    refine z_iadd C dX6_wouldRather_32 ?_
    refine z_iald C dX6_wouldRather_33 (by decide) rfl (by omega) (by decide) (fun hr12 => ?_)
    rw [lk_l hq hl (by omega)]
    have hhl : h p = 5 + μ 42 p := by omega
    rw [← hhl]
    have h73 := ho7 p (h p) (by omega)
    refine z_icmp_le C dX6_wouldRather_34 (tgt := 41) (by decide) (by omega) (by omega) (fun c13 => ?_) (fun c13 => ?_)
    · refine z_iconst C dX6_wouldRather_41 ?_
      refine z_istore_n C dX6_wouldRather_42 (by decide) (L' := [(0, _), (1, _), (2, _), (3, _)]) rfl ?_
      refine z_iload_n C dX6_wouldRather_43 3 rfl ?_
      refine z_if_eq C dX6_wouldRather_44 (tgt := 94) (by decide) (by decide) (fun _ => ?_) (fun c14 => (by exfalso; omega))
      refine z_iconst C dX6_wouldRather_94 ?_
      exact E dX6_wouldRather_95 (by decide) (z_nb (Or.inl rfl)) ⟨rfl, Or.inr ⟨rfl, by omega⟩⟩
    · refine z_iconst C dX6_wouldRather_37 ?_
      refine z_goto C dX6_wouldRather_38 (tgt := 42) (by decide) ?_
      refine z_istore_n C dX6_wouldRather_42 (by decide) (L' := [(0, _), (1, _), (2, _), (3, _)]) rfl ?_
      refine z_iload_n C dX6_wouldRather_43 3 rfl ?_
      refine z_if_eq C dX6_wouldRather_44 (tgt := 94) (by decide) (by decide) (fun c15 => (by exfalso; omega)) (fun _ => ?_)
      refine z_aload_n C dX6_wouldRather_47 0 rfl ?_
      refine z_getR C ffX6_80 dX6_wouldRather_48 (by decide) rfl rfl ?_
      refine z_iload_n C dX6_wouldRather_51 2 rfl ?_
      refine z_iald C dX6_wouldRather_52 (by decide) rfl (by omega) (by decide) (fun hr16 => ?_)
      refine z_if_lt C dX6_wouldRather_53 (tgt := 90) (by decide) (by omega) (fun c17 => ?_) (fun c17 => ?_)
      · refine z_iconst C dX6_wouldRather_90 ?_
        refine z_goto C dX6_wouldRather_91 (tgt := 95) (by decide) ?_
        exact E dX6_wouldRather_95 (by decide) (z_nb (Or.inr rfl)) ⟨rfl, Or.inl ⟨rfl, by omega⟩⟩
      · refine z_aload_n C dX6_wouldRather_56 0 rfl ?_
        refine z_getR C ffX6_38 dX6_wouldRather_57 (by decide) rfl rfl ?_
        refine z_bipush C dX6_wouldRather_60 (by decide) ?_
        refine z_iconst C dX6_wouldRather_62 ?_
        refine z_iload_n C dX6_wouldRather_63 2 rfl ?_
        refine z_imul C dX6_wouldRather_64 ?_
        refine z_iadd C dX6_wouldRather_65 ?_
        refine z_iload_n C dX6_wouldRather_66 1 rfl ?_
        refine z_iadd C dX6_wouldRather_67 ?_
        refine z_iald C dX6_wouldRather_68 (by decide) rfl (by omega) (by decide) (fun hr18 => ?_)
        rw [lk_r hq hl hr]
        refine z_aload_n C dX6_wouldRather_69 0 rfl ?_
        refine z_getR C ffX6_38 dX6_wouldRather_70 (by decide) rfl rfl ?_
        refine z_bipush C dX6_wouldRather_73 (by decide) ?_
        refine z_iconst C dX6_wouldRather_75 ?_
        refine z_iload_n C dX6_wouldRather_76 2 rfl ?_
        refine z_imul C dX6_wouldRather_77 ?_
        refine z_iadd C dX6_wouldRather_78 ?_
        refine z_aload_n C dX6_wouldRather_79 0 rfl ?_
        refine z_getR C ffX6_80 dX6_wouldRather_80 (by decide) rfl rfl ?_
        refine z_iload_n C dX6_wouldRather_83 2 rfl ?_
        refine z_iald C dX6_wouldRather_84 (by decide) rfl (by omega) (by decide) (fun hr19 => ?_)
        refine z_iadd C dX6_wouldRather_85 ?_
        refine z_iald C dX6_wouldRather_86 (by decide) rfl (by omega) (by decide) (fun hr20 => ?_)
        rw [lk_r hq (by omega) hr]
        have hhr : h (5 + q) = μ 43 q := by omega
        rw [← hhr]
        have h74 := ho7 (5 + q) (h (5 + q)) (by omega)
        refine z_icmp_le C dX6_wouldRather_87 (tgt := 94) (by decide) (by omega) (by omega) (fun c21 => ?_) (fun c21 => ?_)
        · refine z_iconst C dX6_wouldRather_94 ?_
          exact E dX6_wouldRather_95 (by decide) (z_nb (Or.inl rfl)) ⟨rfl, Or.inr ⟨rfl, by omega⟩⟩
        · refine z_iconst C dX6_wouldRather_90 ?_
          refine z_goto C dX6_wouldRather_91 (tgt := 95) (by decide) ?_
          exact E dX6_wouldRather_95 (by decide) (z_nb (Or.inr rfl)) ⟨rfl, Or.inl ⟨rfl, by omega⟩⟩
set_option maxHeartbeats 4000000 in
theorem c_X6_firstRather (l : Launch) (μ : zM) (v : zVw) (hq : zQ μ v) (ho : vOK v) (h : Int → Int) (hh : zWy μ h) : zMi l yX6_firstRather cX6_firstRather 3 (.int) 1 23 [.inr 31] μ (fun (r : Int) (m : zM) => μ = m ∧ r = sFw v h) := by
  refine zMi_of (own := RX6) (by decide +kernel) rfl (Nat.le_of_ble_eq_true rfl) ?_
  intro X hX C hrm E
  subst hX
  show zJ X 3 μ 0 [(0, .inr 31)] []
  obtain ⟨hq1, hq2, hq3, hq4, hq5, hq6, hq7⟩ := id hq
  obtain ⟨ho1, ho2, ho3, ho4, ho5, ho6, ho7⟩ := id ho
  have hN := vN_ok ho
  refine z_iconst C dX6_firstRather_0 ?_
  refine z_istore_n C dX6_firstRather_1 (by decide) (L' := [(0, _), (1, _)]) rfl ?_
  have LP2 : ∀ (N2 : Nat) (a : Int), (0 ≤ a) → (a ≤ vL v) → (sFw v h = sFwL v h (vL v - a).toNat a) → (6 - a).toNat < N2 → zJ X 3 μ 2 [(0, .inr 31), (1, .inl a)] [] := by
    intro N2
    induction N2 with
    | zero => intro a h2_0 h2_1 h2_2 hN; exact absurd hN (Nat.not_lt_zero _)
    | succ N2 ih2 =>
      intro a h2_0 h2_1 h2_2 hN2
      refine z_iload_n C dX6_firstRather_2 1 rfl ?_
      refine z_aload_n C dX6_firstRather_3 0 rfl ?_
      refine z_getI C ffX6_7 dX6_firstRather_4 (by decide) rfl rfl 0 rfl (fun hr1 => ?_)
      rw [hq1]
      refine z_icmp_ge C dX6_firstRather_7 (tgt := 58) (by decide) (by omega) (by omega) (fun c2 => ?_) (fun c2 => ?_)
      · refine z_bipush C dX6_firstRather_58 (by decide) ?_
        exact E dX6_firstRather_60 (by decide) rfl ⟨rfl, (by rw [h2_2, show (vL v - a).toNat = 0 by omega]; rfl)⟩
      · refine z_iconst C dX6_firstRather_10 ?_
        refine z_istore_n C dX6_firstRather_11 (by decide) (L' := [(0, _), (1, _), (2, _)]) rfl ?_
        have LP12 : ∀ (N12 : Nat) (b : Int), (0 ≤ b) → (b ≤ vR v) → (sFwR v h a (vR v).toNat 0 = sFwR v h a (vR v - b).toNat b) → (6 - b).toNat < N12 → zJ X 3 μ 12 [(0, .inr 31), (1, .inl a), (2, .inl b)] [] := by
          intro N12
          induction N12 with
          | zero => intro b h12_0 h12_1 h12_2 hN; exact absurd hN (Nat.not_lt_zero _)
          | succ N12 ih12 =>
            intro b h12_0 h12_1 h12_2 hN12
            have g1 := (hh a (by omega) (by omega)).1
            refine z_iload_n C dX6_firstRather_12 2 rfl ?_
            refine z_aload_n C dX6_firstRather_13 0 rfl ?_
            refine z_getI C ffX6_13 dX6_firstRather_14 (by decide) rfl rfl 1 rfl (fun hr3 => ?_)
            rw [hq2]
            refine z_icmp_ge C dX6_firstRather_17 (tgt := 52) (by decide) (by omega) (by omega) (fun c4 => ?_) (fun c4 => ?_)
            · refine z_iinc C dX6_firstRather_52 1 rfl (by decide) (L' := [(0, _), (1, _), (2, _)]) rfl ?_
              refine z_goto C dX6_firstRather_55 (tgt := 2) (by decide) ?_
              refine z_sub [0, 1] rfl ?_; exact ih2 _ (by omega) (by omega) (by rw [h2_2, sFwL_s v h (by omega), if_pos (by rw [h12_2, show (vR v - b).toNat = 0 by omega]; rfl)]) (by omega)
            · refine z_aload_n C dX6_firstRather_20 0 rfl ?_
              refine z_getR C ffX6_77 dX6_firstRather_21 (by decide) rfl rfl ?_
              refine z_iload_n C dX6_firstRather_24 1 rfl ?_
              refine z_iald C dX6_firstRather_25 (by decide) rfl (by omega) (by decide) (fun hr5 => ?_)
              refine z_iload_n C dX6_firstRather_26 2 rfl ?_
              refine z_icmp_eq C dX6_firstRather_27 (tgt := 46) (by decide) (by omega) (by omega) (fun c6 => ?_) (fun c6 => ?_)
              · refine z_iinc C dX6_firstRather_46 2 rfl (by decide) (L' := [(0, _), (1, _), (2, _)]) rfl ?_
                refine z_goto C dX6_firstRather_49 (tgt := 12) (by decide) ?_
                exact ih12 _ (by omega) (by omega) (by rw [h12_2, sFwR_s v h a (by omega), if_neg (zWy_no hh (by omega) (by omega) (by omega) v)]) (by omega)
              · refine z_aload_n C dX6_firstRather_30 0 rfl ?_
                refine z_iload_n C dX6_firstRather_31 1 rfl ?_
                refine z_iload_n C dX6_firstRather_32 2 rfl ?_
                refine z_callVi C (c_X6_wouldRather (zl X) μ v hq ho h hh a b (by omega) (by omega)) yyX6_wouldRather mlX6_259 (zRc_of (i := 31) C (by decide) rfl rfl) dX6_firstRather_33 rfl rfl (Nat.le_of_ble_eq_true rfl) (by decide) (fun r7 m7 hr7 hp7 => ?_)
                obtain ⟨rfl, hp7⟩ := hp7
                rcases hp7 with ⟨rfl, hp7⟩ | ⟨rfl, hp7⟩
                · refine z_if_eq C dX6_firstRather_36 (tgt := 46) (by decide) (by decide) (fun c8 => (by exfalso; omega)) (fun _ => ?_)
                  refine z_bipush C dX6_firstRather_39 (by decide) ?_
                  refine z_iload_n C dX6_firstRather_41 1 rfl ?_
                  refine z_imul C dX6_firstRather_42 ?_
                  refine z_iload_n C dX6_firstRather_43 2 rfl ?_
                  refine z_iadd C dX6_firstRather_44 ?_
                  exact E dX6_firstRather_45 (by omega) rfl ⟨rfl, (by have e : sFwR v h a (vR v).toNat 0 = 10 * a + b := (by rw [h12_2, sFwR_s v h a (by omega), if_pos (by omega)]); rw [h2_2, sFwL_s v h (by omega), if_neg (by omega), e])⟩
                · refine z_if_eq C dX6_firstRather_36 (tgt := 46) (by decide) (by decide) (fun _ => ?_) (fun c9 => (by exfalso; omega))
                  refine z_iinc C dX6_firstRather_46 2 rfl (by decide) (L' := [(0, _), (1, _), (2, _)]) rfl ?_
                  refine z_goto C dX6_firstRather_49 (tgt := 12) (by decide) ?_
                  exact ih12 _ (by omega) (by omega) (by rw [h12_2, sFwR_s v h a (by omega), if_neg (by omega)]) (by omega)
        exact LP12 _ 0 (by omega) (by omega) (by rw [Int.sub_zero]) (Nat.lt_succ_self _)
  exact LP2 _ 0 (by omega) (by omega) (by rw [Int.sub_zero]; rfl) (Nat.lt_succ_self _)
set_option maxHeartbeats 4000000 in
theorem c_X6_layWay (l : Launch) (μ : zM) (v : zVw) (hq : zQ μ v) (ho : vOK v) (s c : Int) (hs : s = sSd v) (hc : 0 ≤ c ∧ c < 100000) : zMi l yX6_layWay cX6_layWay 8 (.boolean) 0 0 [.inr 31, .inl c] μ (fun (r : Int) (m : zM) => ((r = 1 ∧ sOk v s c = true ∧ zWy m (sHas v s c)) ∨ (r = 0 ∧ sOk v s c = false)) ∧ ∀ x, ¬ x = 42 → ¬ x = 43 → m x = μ x) := by
  refine zMi_of (own := RX6) (by decide +kernel) rfl (Nat.le_of_ble_eq_true rfl) ?_
  intro X hX C hrm E
  subst hX
  show zJ X 8 μ 0 [(0, .inr 31), (1, .inl c)] []
  obtain ⟨hq1, hq2, hq3, hq4, hq5, hq6, hq7⟩ := id hq
  obtain ⟨ho1, ho2, ho3, ho4, ho5, ho6, ho7⟩ := id ho
  have hN := vN_ok ho
  have hC1 := vC_b ho s
  have hC2 := vC_b ho (1 - s)
  refine z_aload_n C dX6_layWay_0 0 rfl ?_
  refine z_getI C ffX6_7 dX6_layWay_1 (by decide) rfl rfl 0 rfl (fun hr1 => ?_)
  rw [hq1]
  refine z_aload_n C dX6_layWay_4 0 rfl ?_
  refine z_getI C ffX6_13 dX6_layWay_5 (by decide) rfl rfl 1 rfl (fun hr2 => ?_)
  rw [hq2]
  refine z_icmp_gt C dX6_layWay_8 (tgt := 15) (by decide) (by omega) (by omega) (fun c3 => ?_) (fun c3 => ?_)
  · refine z_iconst C dX6_layWay_15 ?_
    have hs0 : s = 1 := by rw [hs]; unfold sSd; exact if_neg (by omega)
    have hle : vC v s ≤ vC v (1 - s) := by rw [hs0]; unfold vC; simp <;> omega
    refine z_istore_n C dX6_layWay_16 (by decide) (L' := [(0, _), (1, _), (2, _)]) rfl ?_
    refine z_iload_n C dX6_layWay_17 2 rfl ?_
    refine z_if_eq C dX6_layWay_18 (tgt := 28) (by decide) (by decide) (fun _ => ?_) (fun c4 => (by exfalso; omega))
    refine z_aload_n C dX6_layWay_28 0 rfl ?_
    refine z_getI C ffX6_13 dX6_layWay_29 (by decide) rfl rfl 1 rfl (fun hr5 => ?_)
    rw [show (μ 31 1) = vC v s by rw [hs0]; unfold vC; simp <;> omega]
    refine z_istore_n C dX6_layWay_32 (by decide) (L' := [(0, _), (1, _), (2, _), (3, _)]) rfl ?_
    refine z_iload_n C dX6_layWay_33 2 rfl ?_
    refine z_if_eq C dX6_layWay_34 (tgt := 44) (by decide) (by decide) (fun _ => ?_) (fun c6 => (by exfalso; omega))
    refine z_aload_n C dX6_layWay_44 0 rfl ?_
    refine z_getI C ffX6_7 dX6_layWay_45 (by decide) rfl rfl 0 rfl (fun hr7 => ?_)
    rw [show (μ 31 0) = vC v (1 - s) by rw [hs0]; unfold vC; simp <;> omega]
    refine z_istore C dX6_layWay_48 (by decide) (L' := [(0, _), (1, _), (2, _), (3, _), (4, _)]) rfl ?_
    refine z_iconst C dX6_layWay_50 ?_
    refine z_istore C dX6_layWay_51 (by decide) (L' := [(0, _), (1, _), (2, _), (3, _), (4, _), (5, _)]) rfl ?_
    have LP53 : ∀ (N53 : Nat) (x5 : Int) (ma : zM), (0 ≤ x5) → (x5 ≤ 5) → (∀ x, 0 ≤ x → x < x5 → ma 42 x = -1 ∧ ma 43 x = -1) → (∀ x, ¬ x = 42 → ¬ x = 43 → ma x = μ x) → (6 - x5).toNat < N53 → zJ X 8 ma 53 [(0, .inr 31), (1, .inl c), (2, .inl 0), (3, .inl (vC v s)), (4, .inl (vC v (1 - s))), (5, .inl x5)] [] := by
      intro N53
      induction N53 with
      | zero => intro x5 ma h53_0 h53_1 h53_2 h53_3 hN; exact absurd hN (Nat.not_lt_zero _)
      | succ N53 ih53 =>
        intro x5 ma h53_0 h53_1 h53_2 h53_3 hN53
        refine z_iload C dX6_layWay_53 5 rfl ?_
        refine z_iconst C dX6_layWay_55 ?_
        refine z_icmp_ge C dX6_layWay_56 (tgt := 81) (by decide) (by omega) (by decide) (fun c8 => ?_) (fun c8 => ?_)
        · refine z_iload_n C dX6_layWay_81 1 rfl ?_
          refine z_istore C dX6_layWay_82 (by decide) (L' := [(0, _), (1, _), (2, _), (3, _), (4, _), (5, _)]) rfl ?_
          refine z_iconst C dX6_layWay_84 ?_
          refine z_istore C dX6_layWay_85 (by decide) (L' := [(0, _), (1, _), (2, _), (3, _), (4, _), (5, _), (6, _)]) rfl ?_
          have LP87 : ∀ (N87 : Nat) (z : Int) (k : Int) (mb : zM), (0 ≤ k) → (k ≤ vC v s) → (z = (sGv v s c k.toNat).2.1) → ((sGv v s c k.toNat).1 = true) → (zWy mb (sGv v s c k.toNat).2.2) → (0 ≤ z) → (z < 100000) → (∀ x, ¬ x = 42 → ¬ x = 43 → mb x = μ x) → (6 - k).toNat < N87 → zJ X 8 mb 87 [(0, .inr 31), (1, .inl c), (2, .inl 0), (3, .inl (vC v s)), (4, .inl (vC v (1 - s))), (5, .inl z), (6, .inl k)] [] := by
            intro N87
            induction N87 with
            | zero => intro z k mb h87_0 h87_1 h87_2 h87_3 h87_4 h87_5 h87_6 h87_7 hN; exact absurd hN (Nat.not_lt_zero _)
            | succ N87 ih87 =>
              intro z k mb h87_0 h87_1 h87_2 h87_3 h87_4 h87_5 h87_6 h87_7 hN87
              refine z_iload C dX6_layWay_87 6 rfl ?_
              refine z_iload_n C dX6_layWay_89 3 rfl ?_
              refine z_icmp_ge C dX6_layWay_90 (tgt := 196) (by decide) (by omega) (by omega) (fun c9 => ?_) (fun c9 => ?_)
              · refine z_iconst C dX6_layWay_196 ?_
                exact E dX6_layWay_197 (by decide) (z_nb (Or.inr rfl)) ⟨Or.inl ⟨rfl, (by unfold sOk; rw [show vC v s = k by omega]; exact h87_3), (by unfold sHas; rw [show vC v s = k by omega]; exact h87_4)⟩, h87_7⟩
              · refine z_iload C dX6_layWay_93 5 rfl ?_
                refine z_iload C dX6_layWay_95 4 rfl ?_
                refine z_irem C dX6_layWay_97 ⟨by omega, by omega, by omega⟩ ?_
                have hof : 0 ≤ z % vC v (1 - s) ∧ z % vC v (1 - s) < vC v (1 - s) := ⟨Int.emod_nonneg _ (by omega), Int.emod_lt_of_pos _ (by omega)⟩
                have hof : 0 ≤ z % vC v (1 - s) ∧ z % vC v (1 - s) < 5 := by omega
                have hzd : 0 ≤ z / vC v (1 - s) ∧ z / vC v (1 - s) ≤ z := ⟨Int.ediv_nonneg (by omega) (by omega), Int.ediv_le_self _ (by omega)⟩
                have hso : sOth (s * 5 + k) ((sGv v s c k.toNat).2.1 % vC v (1 - s)) = z % vC v (1 - s) := by rw [← h87_2]; exact sOth_r (by omega)
                have gk := h87_4 (z % vC v (1 - s)) hof.1 hof.2
                refine z_istore C dX6_layWay_98 (by decide) (L' := [(0, _), (1, _), (2, _), (3, _), (4, _), (5, _), (6, _), (7, _)]) rfl ?_
                refine z_iload C dX6_layWay_100 5 rfl ?_
                refine z_iload C dX6_layWay_102 4 rfl ?_
                refine z_idiv C dX6_layWay_104 ⟨by omega, by omega, by omega⟩ ?_
                refine z_istore C dX6_layWay_105 (by decide) (L' := [(0, _), (1, _), (2, _), (3, _), (4, _), (5, _), (6, _), (7, _)]) rfl ?_
                refine z_iload_n C dX6_layWay_107 2 rfl ?_
                refine z_if_eq C dX6_layWay_108 (tgt := 124) (by decide) (by decide) (fun _ => ?_) (fun c10 => (by exfalso; omega))
                refine z_aload_n C dX6_layWay_124 0 rfl ?_
                refine z_getR C ffX6_77 dX6_layWay_125 (by decide) rfl rfl ?_
                refine z_iload C dX6_layWay_128 7 rfl ?_
                refine z_iald C dX6_layWay_130 (by decide) rfl (by omega) (by decide) (fun hr11 => ?_)
                refine z_if_lt C dX6_layWay_131 (tgt := 136) (by decide) (by omega) (fun c12 => ?_) (fun c12 => ?_)
                · refine z_aload_n C dX6_layWay_136 0 rfl ?_
                  refine z_getR C ffX6_77 dX6_layWay_137 (by decide) rfl rfl ?_
                  refine z_iload_n C dX6_layWay_140 2 rfl ?_
                  refine z_if_eq C dX6_layWay_141 (tgt := 149) (by decide) (by decide) (fun _ => ?_) (fun c13 => (by exfalso; omega))
                  refine z_iload C dX6_layWay_149 7 rfl ?_
                  refine z_iload_n C dX6_layWay_151 2 rfl ?_
                  refine z_if_eq C dX6_layWay_152 (tgt := 160) (by decide) (by decide) (fun _ => ?_) (fun c14 => (by exfalso; omega))
                  refine z_iload C dX6_layWay_160 6 rfl ?_
                  refine z_iast C dX6_layWay_162 (by decide) rfl (by omega) (by decide) (by omega) ?_
                  refine z_mem (fun m15 em15 => ?_)
                  refine z_aload_n C dX6_layWay_163 0 rfl ?_
                  refine z_getR C ffX6_80 dX6_layWay_164 (by decide) rfl rfl ?_
                  refine z_iload_n C dX6_layWay_167 2 rfl ?_
                  refine z_if_eq C dX6_layWay_168 (tgt := 176) (by decide) (by decide) (fun _ => ?_) (fun c16 => (by exfalso; omega))
                  refine z_iload C dX6_layWay_176 6 rfl ?_
                  refine z_iload_n C dX6_layWay_178 2 rfl ?_
                  refine z_if_eq C dX6_layWay_179 (tgt := 187) (by decide) (by decide) (fun _ => ?_) (fun c17 => (by exfalso; omega))
                  refine z_iload C dX6_layWay_187 7 rfl ?_
                  refine z_iast C dX6_layWay_189 (by decide) rfl (by omega) (by decide) (by omega) ?_
                  refine z_mem (fun m18 em18 => ?_)
                  refine z_iinc C dX6_layWay_190 6 rfl (by decide) (L' := [(0, _), (1, _), (2, _), (3, _), (4, _), (5, _), (6, _), (7, _)]) rfl ?_
                  refine z_goto C dX6_layWay_193 (tgt := 87) (by decide) ?_
                  refine z_sub [0, 1, 2, 3, 4, 5, 6] rfl ?_; exact ih87 _ _ m18 (by omega) (by omega) (by rw [sGv_s v s c (by omega), if_pos ⟨h87_3, (by rw [hso]; omega)⟩, h87_2]) (by rw [sGv_s v s c (by omega), if_pos ⟨h87_3, (by rw [hso]; omega)⟩]) (by rw [sGv_s v s c (by omega), if_pos ⟨h87_3, (by rw [hso]; omega)⟩]; exact zWy_cong (zWy_give h87_4 hof (by omega) em15 em18) (fun x x0 x1 => by show (if x = sOth (s * 5 + k) ((sGv v s c k.toNat).2.1 % vC v (1 - s)) then s * 5 + k else if x = s * 5 + k then sOth (s * 5 + k) ((sGv v s c k.toNat).2.1 % vC v (1 - s)) else (sGv v s c k.toNat).2.2 x) = _; rw [hso, show s * 5 + k = 5 + k by omega]; show _ = if x = 5 + k then z % vC v (1 - s) else if x = z % vC v (1 - s) then 5 + k else (sGv v s c k.toNat).2.2 x; by_cases e1 : x = z % vC v (1 - s); (rw [if_pos e1, if_neg (by omega), if_pos e1]); by_cases e2 : x = 5 + k; (rw [if_neg e1, if_pos e2, if_pos e2]); rw [if_neg e1, if_neg e2, if_neg e2, if_neg e1])) hzd.1 (by omega) (fun x y1 y2 => by rw [em18, zs_ne _ _ _ (by omega), em15, zs_ne _ _ _ (by omega)]; exact h87_7 x y1 y2) (by omega)
                · refine z_iconst C dX6_layWay_134 ?_
                  exact E dX6_layWay_135 (by decide) (z_nb (Or.inl rfl)) ⟨Or.inr ⟨rfl, (by unfold sOk; rw [show (vC v s).toNat = (k + 1).toNat + (vC v s - (k + 1)).toNat by omega]; exact sGv_no v s c (by rw [sGv_s v s c (by omega), if_neg (fun z => by have z2 := z.2; rw [hso] at z2; omega)]) _)⟩, h87_7⟩
          exact LP87 _ c 0 ma (by omega) (by omega) rfl rfl (zWy_0 (fun x x0 x1 => h53_2 x x0 (by omega))) (by omega) (by omega) h53_3 (Nat.lt_succ_self _)
        · refine z_aload_n C dX6_layWay_59 0 rfl ?_
          refine z_getR C ffX6_77 dX6_layWay_60 (by decide) rfl rfl ?_
          refine z_iload C dX6_layWay_63 5 rfl ?_
          refine z_iconst C dX6_layWay_65 ?_
          refine z_iast C dX6_layWay_66 (by decide) rfl (by omega) (by decide) (by decide) ?_
          refine z_mem (fun m19 em19 => ?_)
          refine z_aload_n C dX6_layWay_67 0 rfl ?_
          refine z_getR C ffX6_80 dX6_layWay_68 (by decide) rfl rfl ?_
          refine z_iload C dX6_layWay_71 5 rfl ?_
          refine z_iconst C dX6_layWay_73 ?_
          refine z_iast C dX6_layWay_74 (by decide) rfl (by omega) (by decide) (by decide) ?_
          refine z_mem (fun m20 em20 => ?_)
          refine z_iinc C dX6_layWay_75 5 rfl (by decide) (L' := [(0, _), (1, _), (2, _), (3, _), (4, _), (5, _)]) rfl ?_
          refine z_goto C dX6_layWay_78 (tgt := 53) (by decide) ?_
          exact ih53 _ m20 (by omega) (by omega) (fun x x0 x1 => ⟨(by rw [em20, zs_ne _ _ _ (by omega), em19]; exact zs_upto (f := fun _ => -1) (fun y y0 y1 => (h53_2 y y0 y1).1) rfl x x0 x1), (by rw [em20]; exact zs_upto (f := fun _ => -1) (fun y y0 y1 => by rw [em19, zs_ne _ _ _ (by omega)]; exact (h53_2 y y0 y1).2) rfl x x0 x1)⟩) (fun x y z => by rw [em20, zs_ne _ _ _ z, em19, zs_ne _ _ _ y]; exact h53_3 x y z) (by omega)
    exact LP53 _ 0 μ (by omega) (by omega) (fun x x0 x1 => by omega) (fun _ _ _ => rfl) (Nat.lt_succ_self _)
  · refine z_iconst C dX6_layWay_11 ?_
    refine z_goto C dX6_layWay_12 (tgt := 16) (by decide) ?_
    have hs0 : s = 0 := by rw [hs]; unfold sSd; exact if_pos (by omega)
    have hle : vC v s ≤ vC v (1 - s) := by rw [hs0]; unfold vC; simp <;> omega
    refine z_istore_n C dX6_layWay_16 (by decide) (L' := [(0, _), (1, _), (2, _)]) rfl ?_
    refine z_iload_n C dX6_layWay_17 2 rfl ?_
    refine z_if_eq C dX6_layWay_18 (tgt := 28) (by decide) (by decide) (fun c21 => (by exfalso; omega)) (fun _ => ?_)
    refine z_aload_n C dX6_layWay_21 0 rfl ?_
    refine z_getI C ffX6_7 dX6_layWay_22 (by decide) rfl rfl 0 rfl (fun hr22 => ?_)
    refine z_goto C dX6_layWay_25 (tgt := 32) (by decide) ?_
    rw [show (μ 31 0) = vC v s by rw [hs0]; unfold vC; simp <;> omega]
    refine z_istore_n C dX6_layWay_32 (by decide) (L' := [(0, _), (1, _), (2, _), (3, _)]) rfl ?_
    refine z_iload_n C dX6_layWay_33 2 rfl ?_
    refine z_if_eq C dX6_layWay_34 (tgt := 44) (by decide) (by decide) (fun c23 => (by exfalso; omega)) (fun _ => ?_)
    refine z_aload_n C dX6_layWay_37 0 rfl ?_
    refine z_getI C ffX6_13 dX6_layWay_38 (by decide) rfl rfl 1 rfl (fun hr24 => ?_)
    refine z_goto C dX6_layWay_41 (tgt := 48) (by decide) ?_
    rw [show (μ 31 1) = vC v (1 - s) by rw [hs0]; unfold vC; simp <;> omega]
    refine z_istore C dX6_layWay_48 (by decide) (L' := [(0, _), (1, _), (2, _), (3, _), (4, _)]) rfl ?_
    refine z_iconst C dX6_layWay_50 ?_
    refine z_istore C dX6_layWay_51 (by decide) (L' := [(0, _), (1, _), (2, _), (3, _), (4, _), (5, _)]) rfl ?_
    have LP53 : ∀ (N53 : Nat) (x5 : Int) (ma : zM), (0 ≤ x5) → (x5 ≤ 5) → (∀ x, 0 ≤ x → x < x5 → ma 42 x = -1 ∧ ma 43 x = -1) → (∀ x, ¬ x = 42 → ¬ x = 43 → ma x = μ x) → (6 - x5).toNat < N53 → zJ X 8 ma 53 [(0, .inr 31), (1, .inl c), (2, .inl 1), (3, .inl (vC v s)), (4, .inl (vC v (1 - s))), (5, .inl x5)] [] := by
      intro N53
      induction N53 with
      | zero => intro x5 ma h53_0 h53_1 h53_2 h53_3 hN; exact absurd hN (Nat.not_lt_zero _)
      | succ N53 ih53 =>
        intro x5 ma h53_0 h53_1 h53_2 h53_3 hN53
        refine z_iload C dX6_layWay_53 5 rfl ?_
        refine z_iconst C dX6_layWay_55 ?_
        refine z_icmp_ge C dX6_layWay_56 (tgt := 81) (by decide) (by omega) (by decide) (fun c25 => ?_) (fun c25 => ?_)
        · refine z_iload_n C dX6_layWay_81 1 rfl ?_
          refine z_istore C dX6_layWay_82 (by decide) (L' := [(0, _), (1, _), (2, _), (3, _), (4, _), (5, _)]) rfl ?_
          refine z_iconst C dX6_layWay_84 ?_
          refine z_istore C dX6_layWay_85 (by decide) (L' := [(0, _), (1, _), (2, _), (3, _), (4, _), (5, _), (6, _)]) rfl ?_
          have LP87 : ∀ (N87 : Nat) (z : Int) (k : Int) (mb : zM), (0 ≤ k) → (k ≤ vC v s) → (z = (sGv v s c k.toNat).2.1) → ((sGv v s c k.toNat).1 = true) → (zWy mb (sGv v s c k.toNat).2.2) → (0 ≤ z) → (z < 100000) → (∀ x, ¬ x = 42 → ¬ x = 43 → mb x = μ x) → (6 - k).toNat < N87 → zJ X 8 mb 87 [(0, .inr 31), (1, .inl c), (2, .inl 1), (3, .inl (vC v s)), (4, .inl (vC v (1 - s))), (5, .inl z), (6, .inl k)] [] := by
            intro N87
            induction N87 with
            | zero => intro z k mb h87_0 h87_1 h87_2 h87_3 h87_4 h87_5 h87_6 h87_7 hN; exact absurd hN (Nat.not_lt_zero _)
            | succ N87 ih87 =>
              intro z k mb h87_0 h87_1 h87_2 h87_3 h87_4 h87_5 h87_6 h87_7 hN87
              refine z_iload C dX6_layWay_87 6 rfl ?_
              refine z_iload_n C dX6_layWay_89 3 rfl ?_
              refine z_icmp_ge C dX6_layWay_90 (tgt := 196) (by decide) (by omega) (by omega) (fun c26 => ?_) (fun c26 => ?_)
              · refine z_iconst C dX6_layWay_196 ?_
                exact E dX6_layWay_197 (by decide) (z_nb (Or.inr rfl)) ⟨Or.inl ⟨rfl, (by unfold sOk; rw [show vC v s = k by omega]; exact h87_3), (by unfold sHas; rw [show vC v s = k by omega]; exact h87_4)⟩, h87_7⟩
              · refine z_iload C dX6_layWay_93 5 rfl ?_
                refine z_iload C dX6_layWay_95 4 rfl ?_
                refine z_irem C dX6_layWay_97 ⟨by omega, by omega, by omega⟩ ?_
                have hof : 0 ≤ z % vC v (1 - s) ∧ z % vC v (1 - s) < vC v (1 - s) := ⟨Int.emod_nonneg _ (by omega), Int.emod_lt_of_pos _ (by omega)⟩
                have hof : 0 ≤ z % vC v (1 - s) ∧ z % vC v (1 - s) < 5 := by omega
                have hzd : 0 ≤ z / vC v (1 - s) ∧ z / vC v (1 - s) ≤ z := ⟨Int.ediv_nonneg (by omega) (by omega), Int.ediv_le_self _ (by omega)⟩
                have hso : sOth (s * 5 + k) ((sGv v s c k.toNat).2.1 % vC v (1 - s)) = 5 + z % vC v (1 - s) := by rw [← h87_2]; exact sOth_l (by omega)
                have gk := h87_4 (z % vC v (1 - s)) hof.1 hof.2
                refine z_istore C dX6_layWay_98 (by decide) (L' := [(0, _), (1, _), (2, _), (3, _), (4, _), (5, _), (6, _), (7, _)]) rfl ?_
                refine z_iload C dX6_layWay_100 5 rfl ?_
                refine z_iload C dX6_layWay_102 4 rfl ?_
                refine z_idiv C dX6_layWay_104 ⟨by omega, by omega, by omega⟩ ?_
                refine z_istore C dX6_layWay_105 (by decide) (L' := [(0, _), (1, _), (2, _), (3, _), (4, _), (5, _), (6, _), (7, _)]) rfl ?_
                refine z_iload_n C dX6_layWay_107 2 rfl ?_
                refine z_if_eq C dX6_layWay_108 (tgt := 124) (by decide) (by decide) (fun c27 => (by exfalso; omega)) (fun _ => ?_)
                refine z_aload_n C dX6_layWay_111 0 rfl ?_
                refine z_getR C ffX6_80 dX6_layWay_112 (by decide) rfl rfl ?_
                refine z_iload C dX6_layWay_115 7 rfl ?_
                refine z_iald C dX6_layWay_117 (by decide) rfl (by omega) (by decide) (fun hr28 => ?_)
                refine z_if_lt C dX6_layWay_118 (tgt := 136) (by decide) (by omega) (fun c29 => ?_) (fun c29 => ?_)
                · refine z_aload_n C dX6_layWay_136 0 rfl ?_
                  refine z_getR C ffX6_77 dX6_layWay_137 (by decide) rfl rfl ?_
                  refine z_iload_n C dX6_layWay_140 2 rfl ?_
                  refine z_if_eq C dX6_layWay_141 (tgt := 149) (by decide) (by decide) (fun c30 => (by exfalso; omega)) (fun _ => ?_)
                  refine z_iload C dX6_layWay_144 6 rfl ?_
                  refine z_goto C dX6_layWay_146 (tgt := 151) (by decide) ?_
                  refine z_iload_n C dX6_layWay_151 2 rfl ?_
                  refine z_if_eq C dX6_layWay_152 (tgt := 160) (by decide) (by decide) (fun c31 => (by exfalso; omega)) (fun _ => ?_)
                  refine z_iload C dX6_layWay_155 7 rfl ?_
                  refine z_goto C dX6_layWay_157 (tgt := 162) (by decide) ?_
                  refine z_iast C dX6_layWay_162 (by decide) rfl (by omega) (by decide) (by omega) ?_
                  refine z_mem (fun m32 em32 => ?_)
                  refine z_aload_n C dX6_layWay_163 0 rfl ?_
                  refine z_getR C ffX6_80 dX6_layWay_164 (by decide) rfl rfl ?_
                  refine z_iload_n C dX6_layWay_167 2 rfl ?_
                  refine z_if_eq C dX6_layWay_168 (tgt := 176) (by decide) (by decide) (fun c33 => (by exfalso; omega)) (fun _ => ?_)
                  refine z_iload C dX6_layWay_171 7 rfl ?_
                  refine z_goto C dX6_layWay_173 (tgt := 178) (by decide) ?_
                  refine z_iload_n C dX6_layWay_178 2 rfl ?_
                  refine z_if_eq C dX6_layWay_179 (tgt := 187) (by decide) (by decide) (fun c34 => (by exfalso; omega)) (fun _ => ?_)
                  refine z_iload C dX6_layWay_182 6 rfl ?_
                  refine z_goto C dX6_layWay_184 (tgt := 189) (by decide) ?_
                  refine z_iast C dX6_layWay_189 (by decide) rfl (by omega) (by decide) (by omega) ?_
                  refine z_mem (fun m35 em35 => ?_)
                  refine z_iinc C dX6_layWay_190 6 rfl (by decide) (L' := [(0, _), (1, _), (2, _), (3, _), (4, _), (5, _), (6, _), (7, _)]) rfl ?_
                  refine z_goto C dX6_layWay_193 (tgt := 87) (by decide) ?_
                  refine z_sub [0, 1, 2, 3, 4, 5, 6] rfl ?_; exact ih87 _ _ m35 (by omega) (by omega) (by rw [sGv_s v s c (by omega), if_pos ⟨h87_3, (by rw [hso]; omega)⟩, h87_2]) (by rw [sGv_s v s c (by omega), if_pos ⟨h87_3, (by rw [hso]; omega)⟩]) (by rw [sGv_s v s c (by omega), if_pos ⟨h87_3, (by rw [hso]; omega)⟩]; exact zWy_cong (zWy_give h87_4 (by omega) hof em32 em35) (fun x x0 x1 => by show (if x = sOth (s * 5 + k) ((sGv v s c k.toNat).2.1 % vC v (1 - s)) then s * 5 + k else if x = s * 5 + k then sOth (s * 5 + k) ((sGv v s c k.toNat).2.1 % vC v (1 - s)) else (sGv v s c k.toNat).2.2 x) = _; rw [hso, show s * 5 + k = k by omega])) hzd.1 (by omega) (fun x y1 y2 => by rw [em35, zs_ne _ _ _ (by omega), em32, zs_ne _ _ _ (by omega)]; exact h87_7 x y1 y2) (by omega)
                · refine z_goto C dX6_layWay_121 (tgt := 134) (by decide) ?_
                  refine z_iconst C dX6_layWay_134 ?_
                  exact E dX6_layWay_135 (by decide) (z_nb (Or.inl rfl)) ⟨Or.inr ⟨rfl, (by unfold sOk; rw [show (vC v s).toNat = (k + 1).toNat + (vC v s - (k + 1)).toNat by omega]; exact sGv_no v s c (by rw [sGv_s v s c (by omega), if_neg (fun z => by have z2 := z.2; rw [hso] at z2; omega)]) _)⟩, h87_7⟩
          exact LP87 _ c 0 ma (by omega) (by omega) rfl rfl (zWy_0 (fun x x0 x1 => h53_2 x x0 (by omega))) (by omega) (by omega) h53_3 (Nat.lt_succ_self _)
        · refine z_aload_n C dX6_layWay_59 0 rfl ?_
          refine z_getR C ffX6_77 dX6_layWay_60 (by decide) rfl rfl ?_
          refine z_iload C dX6_layWay_63 5 rfl ?_
          refine z_iconst C dX6_layWay_65 ?_
          refine z_iast C dX6_layWay_66 (by decide) rfl (by omega) (by decide) (by decide) ?_
          refine z_mem (fun m36 em36 => ?_)
          refine z_aload_n C dX6_layWay_67 0 rfl ?_
          refine z_getR C ffX6_80 dX6_layWay_68 (by decide) rfl rfl ?_
          refine z_iload C dX6_layWay_71 5 rfl ?_
          refine z_iconst C dX6_layWay_73 ?_
          refine z_iast C dX6_layWay_74 (by decide) rfl (by omega) (by decide) (by decide) ?_
          refine z_mem (fun m37 em37 => ?_)
          refine z_iinc C dX6_layWay_75 5 rfl (by decide) (L' := [(0, _), (1, _), (2, _), (3, _), (4, _), (5, _)]) rfl ?_
          refine z_goto C dX6_layWay_78 (tgt := 53) (by decide) ?_
          exact ih53 _ m37 (by omega) (by omega) (fun x x0 x1 => ⟨(by rw [em37, zs_ne _ _ _ (by omega), em36]; exact zs_upto (f := fun _ => -1) (fun y y0 y1 => (h53_2 y y0 y1).1) rfl x x0 x1), (by rw [em37]; exact zs_upto (f := fun _ => -1) (fun y y0 y1 => by rw [em36, zs_ne _ _ _ (by omega)]; exact (h53_2 y y0 y1).2) rfl x x0 x1)⟩) (fun x y z => by rw [em37, zs_ne _ _ _ z, em36, zs_ne _ _ _ y]; exact h53_3 x y z) (by omega)
    exact LP53 _ 0 μ (by omega) (by omega) (fun x x0 x1 => by omega) (fun _ _ _ => rfl) (Nat.lt_succ_self _)
set_option maxHeartbeats 4000000 in
theorem c_X6_firm (l : Launch) (μ : zM) (s : zS) (hs : zRf μ s) (hso : sOK s) : zMi l yX6_firm cX6_firm 6 (.int) 2 45 [.inr 31] μ (fun (r : Int) (m : zM) => r = (tFirm s).1 ∧ zRf m (tFirm s).2 ∧ ∀ a, (a < 31 ∨ 48 ≤ a) → m a = μ a) := by
  refine zMi_of (own := RX6) (by decide +kernel) rfl (Nat.le_of_ble_eq_true rfl) ?_
  intro X hX C hrm E
  subst hX
  show zJ X 6 μ 0 [(0, .inr 31)] []
  obtain ⟨hq, hk, hi, hl, hm, hw, hf⟩ := id hs
  obtain ⟨ho, hok, hoi, hon, hot, hom, how⟩ := id hso
  generalize hgv : gV s = v at hq ho
  obtain ⟨hq1, hq2, hq3, hq4, hq5, hq6, hq7⟩ := id hq
  obtain ⟨ho1, ho2, ho3, ho4, ho5, ho6, ho7⟩ := id ho
  have hN := vN_ok ho
  have hS : sSd v = 0 ∨ sSd v = 1 := by unfold sSd; split <;> omega
  generalize hsd : sSd v = d at hS
  have hC1 := vC_b ho d
  have hC2 := vC_b ho (1 - d)
  have hFb := sFirm_b ho
  have hFd : sFirm v = zSum (sFi v d) (zPow (vC v (1 - d)) (vC v d).toNat).toNat := by unfold sFirm; rw [hsd]
  have hSd : (vL v ≤ vR v ∧ d = 0) ∨ (vR v < vL v ∧ d = 1) := by rw [← hsd]; unfold sSd; split <;> omega
  have JP46 :  zJ X 6 μ 46 [(0, .inr 31), (1, .inl (vC v d)), (2, .inl (vC v (1 - d)))] [] := by
    refine z_iconst C dX6_firm_46 ?_
    refine z_istore_n C dX6_firm_47 (by decide) (L' := [(0, _), (1, _), (2, _), (3, _)]) rfl ?_
    refine z_iconst C dX6_firm_48 ?_
    refine z_istore C dX6_firm_49 (by decide) (L' := [(0, _), (1, _), (2, _), (3, _), (4, _)]) rfl ?_
    have LP51 : ∀ (N51 : Nat) (k : Int) (g : Int), (0 ≤ g) → (g ≤ vC v d) → (k = zPow (vC v (1 - d)) g.toNat) → (6 - g).toNat < N51 → zJ X 6 μ 51 [(0, .inr 31), (1, .inl (vC v d)), (2, .inl (vC v (1 - d))), (3, .inl k), (4, .inl g)] [] := by
      intro N51
      induction N51 with
      | zero => intro k g h51_0 h51_1 h51_2 hN; exact absurd hN (Nat.not_lt_zero _)
      | succ N51 ih51 =>
        intro k g h51_0 h51_1 h51_2 hN51
        have hkb := zPow_5 hC2 (n := g.toNat) (by omega)
        rw [← h51_2] at hkb
        refine z_iload C dX6_firm_51 4 rfl ?_
        refine z_iload_n C dX6_firm_53 1 rfl ?_
        refine z_icmp_ge C dX6_firm_54 (tgt := 67) (by decide) (by omega) (by omega) (fun c1 => ?_) (fun c1 => ?_)
        · have ek : k = zPow (vC v (1 - d)) (vC v d).toNat := by rw [h51_2, show g = vC v d by omega]
          refine z_iconst C dX6_firm_67 ?_
          refine z_istore C dX6_firm_68 (by decide) (L' := [(0, _), (1, _), (2, _), (3, _), (4, _)]) rfl ?_
          refine z_iconst C dX6_firm_70 ?_
          refine z_istore C dX6_firm_71 (by decide) (L' := [(0, _), (1, _), (2, _), (3, _), (4, _), (5, _)]) rfl ?_
          have LP73 : ∀ (N73 : Nat) (n : Int) (i : Int) (ma : zM), (0 ≤ i) → (i ≤ k) → (n = zSum (sFi v d) i.toNat) → (∀ x, ¬ x = 42 → ¬ x = 43 → ma x = μ x) → (k + 1 - i).toNat < N73 → zJ X 6 ma 73 [(0, .inr 31), (1, .inl (vC v d)), (2, .inl (vC v (1 - d))), (3, .inl k), (4, .inl n), (5, .inl i)] [] := by
            intro N73
            induction N73 with
            | zero => intro n i ma h73_0 h73_1 h73_2 h73_3 hN; exact absurd hN (Nat.not_lt_zero _)
            | succ N73 ih73 =>
              intro n i ma h73_0 h73_1 h73_2 h73_3 hN73
              have hnb := zSum_b (f := sFi v d) (c := 1) i.toNat (fun x _ _ => by unfold sFi; split <;> omega)
              have hqa : zQ ma v := (zQ_fr hq (fun x _ _ => by rw [h73_3 31 (by omega) (by omega)]) (by rw [h73_3 32 (by omega) (by omega)]) (by rw [h73_3 33 (by omega) (by omega)]) (by rw [h73_3 34 (by omega) (by omega)]))
              refine z_iload C dX6_firm_73 5 rfl ?_
              refine z_iload_n C dX6_firm_75 3 rfl ?_
              refine z_icmp_ge C dX6_firm_76 (tgt := 111) (by decide) (by omega) (by omega) (fun c2 => ?_) (fun c2 => ?_)
              · refine z_iload C dX6_firm_111 4 rfl ?_
                exact E dX6_firm_113 (by omega) rfl (t_fin (P := zRf) (show tFirm s = (n, s) by unfold tFirm; (first | rw [hgv] | skip); rw [hFd, h73_2, show i = k by omega, ek]) (zRf_fr hs (fun a x _ => by rw [h73_3 a (by omega) (by omega)])) (fun a _ => h73_3 a (by omega) (by omega)))
              · refine z_iload C dX6_firm_79 4 rfl ?_
                refine z_aload_n C dX6_firm_81 0 rfl ?_
                refine z_iload C dX6_firm_82 5 rfl ?_
                refine z_callVi C (c_X6_layWay (zl X) ma v hqa ho d i hsd.symm (by omega)) yyX6_layWay mlX6_262 (zRc_of (i := 31) C (by decide) rfl rfl) dX6_firm_84 rfl rfl (Nat.le_of_ble_eq_true rfl) (by decide) (fun r3 m3 hr3 hp3 => ?_)
                have hgf := hp3.2
                have hgq : zQ m3 v := zQ_fr hqa (fun x _ _ => by rw [hgf 31 (by omega) (by omega)]) (hgf 32 (by omega) (by omega)) (hgf 33 (by omega) (by omega)) (hgf 34 (by omega) (by omega))
                have hrb : r3 = 0 ∨ r3 = 1 := by rcases hp3.1 with y | y <;> omega
                refine z_if_eq C dX6_firm_87 (tgt := 101) (by decide) (by omega) (fun c4 => ?_) (fun c4 => ?_)
                · have hgk := (hp3.1.resolve_left (fun y => by omega)).2
                  refine z_iconst C dX6_firm_101 ?_
                  refine z_iadd C dX6_firm_102 ?_
                  refine z_istore C dX6_firm_103 (by decide) (L' := [(0, _), (1, _), (2, _), (3, _), (4, _), (5, _)]) rfl ?_
                  refine z_iinc C dX6_firm_105 5 rfl (by decide) (L' := [(0, _), (1, _), (2, _), (3, _), (4, _), (5, _)]) rfl ?_
                  refine z_goto C dX6_firm_108 (tgt := 73) (by decide) ?_
                  exact ih73 _ _ m3 (by omega) (by omega) (by rw [zSum_s _ (by omega), h73_2]; unfold sFi; rw [if_neg (fun z => by rw [hgk] at z; cases z.1)]) (fun x y z => by rw [hgf x y z]; exact h73_3 x y z) (by omega)
                · have hgk := (hp3.1.resolve_right (fun y => by omega)).2
                  refine z_aload_n C dX6_firm_90 0 rfl ?_
                  refine z_callVi C (c_X6_firstRather (zl X) m3 v hgq ho (sHas v d i) hgk.2) yyX6_firstRather mlX6_265 (zRc_of (i := 31) C (by decide) rfl rfl) dX6_firm_91 rfl rfl (Nat.le_of_ble_eq_true rfl) (by decide) (fun r5 m5 hr5 hp5 => ?_)
                  obtain ⟨rfl, hp5⟩ := hp5
                  rw [hp5]
                  have hfwb := sFw_b ho (sHas v d i)
                  have hfwn := sFw_n v (sHas v d i)
                  refine z_if_ge C dX6_firm_94 (tgt := 101) (by decide) (by omega) (fun c6 => ?_) (fun c6 => ?_)
                  · skip
                    refine z_iconst C dX6_firm_101 ?_
                    refine z_iadd C dX6_firm_102 ?_
                    refine z_istore C dX6_firm_103 (by decide) (L' := [(0, _), (1, _), (2, _), (3, _), (4, _), (5, _)]) rfl ?_
                    refine z_iinc C dX6_firm_105 5 rfl (by decide) (L' := [(0, _), (1, _), (2, _), (3, _), (4, _), (5, _)]) rfl ?_
                    refine z_goto C dX6_firm_108 (tgt := 73) (by decide) ?_
                    exact ih73 _ _ m3 (by omega) (by omega) (by rw [zSum_s _ (by omega), h73_2]; unfold sFi; rw [if_neg (fun z => by omega)]) (fun x y z => by rw [hgf x y z]; exact h73_3 x y z) (by omega)
                  · refine z_iconst C dX6_firm_97 ?_
                    refine z_goto C dX6_firm_98 (tgt := 102) (by decide) ?_
                    refine z_iadd C dX6_firm_102 ?_
                    refine z_istore C dX6_firm_103 (by decide) (L' := [(0, _), (1, _), (2, _), (3, _), (4, _), (5, _)]) rfl ?_
                    refine z_iinc C dX6_firm_105 5 rfl (by decide) (L' := [(0, _), (1, _), (2, _), (3, _), (4, _), (5, _)]) rfl ?_
                    refine z_goto C dX6_firm_108 (tgt := 73) (by decide) ?_
                    exact ih73 _ _ m3 (by omega) (by omega) (by rw [zSum_s _ (by omega), h73_2]; unfold sFi; rw [if_pos ⟨hgk.1, by omega⟩]) (fun x y z => by rw [hgf x y z]; exact h73_3 x y z) (by omega)
          exact LP73 _ 0 0 μ (by omega) (by omega) rfl (fun _ _ _ => rfl) (Nat.lt_succ_self _)
        · refine z_iload_n C dX6_firm_57 3 rfl ?_
          refine z_iload_n C dX6_firm_58 2 rfl ?_
          refine z_imul C dX6_firm_59 ?_
          refine z_istore_n C dX6_firm_60 (by decide) (L' := [(0, _), (1, _), (2, _), (3, _), (4, _)]) rfl ?_
          refine z_iinc C dX6_firm_61 4 rfl (by decide) (L' := [(0, _), (1, _), (2, _), (3, _), (4, _)]) rfl ?_
          refine z_goto C dX6_firm_64 (tgt := 51) (by decide) ?_
          exact ih51 _ _ (by omega) (by omega) (by rw [zPow_s _ (by omega), ← h51_2]) (by omega)
    exact LP51 _ 1 0 (by omega) (by omega) rfl (Nat.lt_succ_self _)
  refine z_aload_n C dX6_firm_0 0 rfl ?_
  refine z_getI C ffX6_7 dX6_firm_1 (by decide) rfl rfl 0 rfl (fun hr7 => ?_)
  refine z_aload_n C dX6_firm_4 0 rfl ?_
  refine z_getI C ffX6_13 dX6_firm_5 (by decide) rfl rfl 1 rfl (fun hr8 => ?_)
  refine z_icmp_gt C dX6_firm_8 (tgt := 18) (by decide) (by omega) (by omega) (fun c9 => ?_) (fun c9 => ?_)
  · refine z_aload_n C dX6_firm_18 0 rfl ?_
    refine z_getI C ffX6_13 dX6_firm_19 (by decide) rfl rfl 1 rfl (fun hr10 => ?_)
    rw [show (μ 31 1) = vC v d by unfold vC; split <;> omega]
    refine z_istore_n C dX6_firm_22 (by decide) (L' := [(0, _), (1, _)]) rfl ?_
    refine z_aload_n C dX6_firm_23 0 rfl ?_
    refine z_getI C ffX6_7 dX6_firm_24 (by decide) rfl rfl 0 rfl (fun hr11 => ?_)
    refine z_aload_n C dX6_firm_27 0 rfl ?_
    refine z_getI C ffX6_13 dX6_firm_28 (by decide) rfl rfl 1 rfl (fun hr12 => ?_)
    refine z_icmp_gt C dX6_firm_31 (tgt := 41) (by decide) (by omega) (by omega) (fun _ => ?_) (fun c13 => (by exfalso; omega))
    refine z_aload_n C dX6_firm_41 0 rfl ?_
    refine z_getI C ffX6_7 dX6_firm_42 (by decide) rfl rfl 0 rfl (fun hr14 => ?_)
    rw [show (μ 31 0) = vC v (1 - d) by unfold vC; split <;> omega]
    refine z_istore_n C dX6_firm_45 (by decide) (L' := [(0, _), (1, _), (2, _)]) rfl ?_
    exact JP46  
  · refine z_aload_n C dX6_firm_11 0 rfl ?_
    refine z_getI C ffX6_7 dX6_firm_12 (by decide) rfl rfl 0 rfl (fun hr15 => ?_)
    refine z_goto C dX6_firm_15 (tgt := 22) (by decide) ?_
    rw [show (μ 31 0) = vC v d by unfold vC; split <;> omega]
    refine z_istore_n C dX6_firm_22 (by decide) (L' := [(0, _), (1, _)]) rfl ?_
    refine z_aload_n C dX6_firm_23 0 rfl ?_
    refine z_getI C ffX6_7 dX6_firm_24 (by decide) rfl rfl 0 rfl (fun hr16 => ?_)
    refine z_aload_n C dX6_firm_27 0 rfl ?_
    refine z_getI C ffX6_13 dX6_firm_28 (by decide) rfl rfl 1 rfl (fun hr17 => ?_)
    refine z_icmp_gt C dX6_firm_31 (tgt := 41) (by decide) (by omega) (by omega) (fun c18 => (by exfalso; omega)) (fun _ => ?_)
    refine z_aload_n C dX6_firm_34 0 rfl ?_
    refine z_getI C ffX6_13 dX6_firm_35 (by decide) rfl rfl 1 rfl (fun hr19 => ?_)
    refine z_goto C dX6_firm_38 (tgt := 45) (by decide) ?_
    rw [show (μ 31 1) = vC v (1 - d) by unfold vC; split <;> omega]
    refine z_istore_n C dX6_firm_45 (by decide) (L' := [(0, _), (1, _), (2, _)]) rfl ?_
    exact JP46  
set_option maxHeartbeats 4000000 in
theorem c_X6_row (l : Launch) (μ : zM) (s : zS) (hs : zRf μ s) (hso : sOK s) (z : Int) (hz : zR z) : zMi l yX6_row cX6_row 2 (.int) 1 21 [.inr 31, .inl z] μ (fun (r : Int) (m : zM) => r = (tRow s z).1 ∧ zRf m (tRow s z).2 ∧ ∀ a, (a < 31 ∨ 48 ≤ a) → m a = μ a) := by
  refine zMi_of (own := RX6) (by decide +kernel) rfl (Nat.le_of_ble_eq_true rfl) ?_
  intro X hX C hrm E
  subst hX
  show zJ X 2 μ 0 [(0, .inr 31), (1, .inl z)] []
  obtain ⟨hq, hk, hi, hl, hm, hw, hf⟩ := id hs
  obtain ⟨ho, hok, hoi, hon, hot, hom, how⟩ := id hso
  generalize hgv : gV s = v at hq ho
  obtain ⟨hq1, hq2, hq3, hq4, hq5, hq6, hq7⟩ := id hq
  obtain ⟨ho1, ho2, ho3, ho4, ho5, ho6, ho7⟩ := id ho
  have hN := vN_ok ho
  refine z_iload_n C dX6_row_0 1 rfl ?_
  refine z_if_ge C dX6_row_1 (tgt := 11) (by decide) (by omega) (fun c1 => ?_) (fun c1 => ?_)
  · refine z_iload_n C dX6_row_11 1 rfl ?_
    refine z_bipush C dX6_row_12 (by decide) ?_
    refine z_icmp_gt C dX6_row_14 (tgt := 26) (by decide) (by omega) (by decide) (fun c2 => ?_) (fun c2 => ?_)
    · refine z_aload_n C dX6_row_26 0 rfl ?_
      refine z_bipush C dX6_row_27 (by decide) ?_
      refine z_callVi C (c_X6_no (zl X) μ 6 (by omega)) yyX6_no mlX6_128 (zRc_of (i := 31) C (by decide) rfl rfl) dX6_row_29 rfl rfl (Nat.le_of_ble_eq_true rfl) (by decide) (fun r3 m3 hr3 hp3 => ?_)
      rw [hp3.1]
      exact E dX6_row_32 (by decide) rfl (t_fin (P := zRf) (show tRow s z = ((-6), pF s 6) by unfold tRow; (first | rw [hgv] | skip); repeat (first | rw [if_pos (by omega)] | rw [if_neg (by omega)])) (by rw [hp3.2]; exact zRf_F hs (by omega)) (fun a _ => by rw [hp3.2, zs_ne _ _ _ (by omega)]))
    · refine z_aload_n C dX6_row_17 0 rfl ?_
      refine z_getI C ffX6_28 dX6_row_18 (by decide) rfl rfl 6 rfl (fun hr4 => ?_)
      rw [hm]
      refine z_bipush C dX6_row_21 (by decide) ?_
      refine z_icmp_ne C dX6_row_23 (tgt := 33) (by decide) (by omega) (by decide) (fun c5 => ?_) (fun c5 => ?_)
      · refine z_aload_n C dX6_row_33 0 rfl ?_
        refine z_getR C ffX6_44 dX6_row_34 (by decide) rfl rfl ?_
        refine z_aload_n C dX6_row_37 0 rfl ?_
        refine z_getI C ffX6_28 dX6_row_38 (by decide) rfl rfl 6 rfl (fun hr6 => ?_)
        rw [hm]
        refine z_iload_n C dX6_row_41 1 rfl ?_
        refine z_iast C dX6_row_42 (by decide) rfl (by omega) (by decide) (by omega) ?_
        refine z_mem (fun m7 em7 => ?_)
        refine z_aload_n C dX6_row_43 0 rfl ?_
        refine z_dup C dX6_row_44 ?_
        refine z_getI C ffX6_28 dX6_row_45 (by decide) rfl rfl 6 rfl (fun hr8 => ?_)
        rw [show m7 31 6 = gM s by rw [em7, zs_ne _ _ _ (by omega)]; exact hm]
        refine z_iconst C dX6_row_48 ?_
        refine z_iadd C dX6_row_49 ?_
        refine z_putI C ffX6_28 fp6_6 dX6_row_50 (by decide) rfl rfl 6 rfl (by omega) ?_
        refine z_mem (fun m9 em9 => ?_)
        refine z_aload_n C dX6_row_53 0 rfl ?_
        refine z_getI C ffX6_28 dX6_row_54 (by decide) rfl rfl 6 rfl (fun hr10 => ?_)
        rw [show m9 31 6 = gM s + 1 by rw [em9, zs_self]]
        exact E dX6_row_57 (by omega) rfl (t_fin (P := zRf) (show tRow s z = (gM s + 1, pR s z) by unfold tRow; (first | rw [hgv] | skip); repeat (first | rw [if_pos (by omega)] | rw [if_neg (by omega)])) (by rw [em9, em7]; exact zRf_R hs z) (fun a _ => by rw [em9, zs_ne _ _ _ (by omega), em7, zs_ne _ _ _ (by omega)]))
      · refine z_aload_n C dX6_row_26 0 rfl ?_
        refine z_bipush C dX6_row_27 (by decide) ?_
        refine z_callVi C (c_X6_no (zl X) μ 6 (by omega)) yyX6_no mlX6_128 (zRc_of (i := 31) C (by decide) rfl rfl) dX6_row_29 rfl rfl (Nat.le_of_ble_eq_true rfl) (by decide) (fun r11 m11 hr11 hp11 => ?_)
        rw [hp11.1]
        exact E dX6_row_32 (by decide) rfl (t_fin (P := zRf) (show tRow s z = ((-6), pF s 6) by unfold tRow; (first | rw [hgv] | skip); repeat (first | rw [if_pos (by omega)] | rw [if_neg (by omega)])) (by rw [hp11.2]; exact zRf_F hs (by omega)) (fun a _ => by rw [hp11.2, zs_ne _ _ _ (by omega)]))
  · refine z_aload_n C dX6_row_4 0 rfl ?_
    refine z_bipush C dX6_row_5 (by decide) ?_
    refine z_callVi C (c_X6_no (zl X) μ 4 (by omega)) yyX6_no mlX6_128 (zRc_of (i := 31) C (by decide) rfl rfl) dX6_row_7 rfl rfl (Nat.le_of_ble_eq_true rfl) (by decide) (fun r12 m12 hr12 hp12 => ?_)
    rw [hp12.1]
    exact E dX6_row_10 (by decide) rfl (t_fin (P := zRf) (show tRow s z = ((-4), pF s 4) by unfold tRow; (first | rw [hgv] | skip); repeat (first | rw [if_pos (by omega)] | rw [if_neg (by omega)])) (by rw [hp12.2]; exact zRf_F hs (by omega)) (fun a _ => by rw [hp12.2, zs_ne _ _ _ (by omega)]))
set_option maxHeartbeats 4000000 in
theorem c_X6_isWay (l : Launch) (μ : zM) (s : zS) (hs : zRf μ s) (hso : sOK s) : zMi l yX6_isWay cX6_isWay 2 (.boolean) 0 0 [.inr 31] μ (fun (r : Int) (m : zM) => ((r = 1 ∧ gM s = vL (gV s) ∧ (sHr (gV s) (gW s) (vL (gV s)).toNat).1 = true ∧ zWy m (sHr (gV s) (gW s) (vL (gV s)).toNat).2) ∨ (r = 0 ∧ ¬ (gM s = vL (gV s) ∧ (sHr (gV s) (gW s) (vL (gV s)).toNat).1 = true))) ∧ ∀ x, ¬ x = 42 → ¬ x = 43 → m x = μ x) := by
  refine zMi_of (own := RX6) (by decide +kernel) rfl (Nat.le_of_ble_eq_true rfl) ?_
  intro X hX C hrm E
  subst hX
  show zJ X 2 μ 0 [(0, .inr 31)] []
  obtain ⟨hq, hk, hi, hl, hm, hw, hf⟩ := id hs
  obtain ⟨ho, hok, hoi, hon, hot, hom, how⟩ := id hso
  generalize hgv : gV s = v at hq ho
  obtain ⟨hq1, hq2, hq3, hq4, hq5, hq6, hq7⟩ := id hq
  obtain ⟨ho1, ho2, ho3, ho4, ho5, ho6, ho7⟩ := id ho
  have hN := vN_ok ho
  refine z_aload_n C dX6_isWay_0 0 rfl ?_
  refine z_getI C ffX6_28 dX6_isWay_1 (by decide) rfl rfl 6 rfl (fun hr1 => ?_)
  rw [hm]
  refine z_aload_n C dX6_isWay_4 0 rfl ?_
  refine z_getI C ffX6_7 dX6_isWay_5 (by decide) rfl rfl 0 rfl (fun hr2 => ?_)
  rw [hq1]
  refine z_icmp_eq C dX6_isWay_8 (tgt := 13) (by decide) (by omega) (by omega) (fun c3 => ?_) (fun c3 => ?_)
  · refine z_iconst C dX6_isWay_13 ?_
    refine z_istore_n C dX6_isWay_14 (by decide) (L' := [(0, _), (1, _)]) rfl ?_
    have LP15 : ∀ (N15 : Nat) (x5 : Int) (ma : zM), (0 ≤ x5) → (x5 ≤ 5) → (∀ x, 0 ≤ x → x < x5 → ma 42 x = -1 ∧ ma 43 x = -1) → (∀ x, ¬ x = 42 → ¬ x = 43 → ma x = μ x) → (6 - x5).toNat < N15 → zJ X 2 ma 15 [(0, .inr 31), (1, .inl x5)] [] := by
      intro N15
      induction N15 with
      | zero => intro x5 ma h15_0 h15_1 h15_2 h15_3 hN; exact absurd hN (Nat.not_lt_zero _)
      | succ N15 ih15 =>
        intro x5 ma h15_0 h15_1 h15_2 h15_3 hN15
        refine z_iload_n C dX6_isWay_15 1 rfl ?_
        refine z_iconst C dX6_isWay_16 ?_
        refine z_icmp_ge C dX6_isWay_17 (tgt := 40) (by decide) (by omega) (by decide) (fun c4 => ?_) (fun c4 => ?_)
        · refine z_iconst C dX6_isWay_40 ?_
          refine z_istore_n C dX6_isWay_41 (by decide) (L' := [(0, _), (1, _)]) rfl ?_
          have LP42 : ∀ (N42 : Nat) (l : Int) (mb : zM), (0 ≤ l) → (l ≤ vL v) → ((sHr v (gW s) l.toNat).1 = true) → (zWy mb (sHr v (gW s) l.toNat).2) → (∀ x, ¬ x = 42 → ¬ x = 43 → mb x = μ x) → (6 - l).toNat < N42 → zJ X 2 mb 42 [(0, .inr 31), (1, .inl l)] [] := by
            intro N42
            induction N42 with
            | zero => intro l mb h42_0 h42_1 h42_2 h42_3 h42_4 hN; exact absurd hN (Nat.not_lt_zero _)
            | succ N42 ih42 =>
              intro l mb h42_0 h42_1 h42_2 h42_3 h42_4 hN42
              refine z_iload_n C dX6_isWay_42 1 rfl ?_
              refine z_aload_n C dX6_isWay_43 0 rfl ?_
              refine z_getI C ffX6_7 dX6_isWay_44 (by decide) rfl rfl 0 rfl (fun hr5 => ?_)
              rw [show mb 31 0 = vL v by rw [h42_4 31 (by omega) (by omega)]; exact hq1]
              refine z_icmp_ge C dX6_isWay_47 (tgt := 123) (by decide) (by omega) (by omega) (fun c6 => ?_) (fun c6 => ?_)
              · refine z_iconst C dX6_isWay_123 ?_
                exact E dX6_isWay_124 (by decide) (z_nb (Or.inr rfl)) ⟨Or.inl ⟨rfl, (by rw [hgv]; omega), (by rw [hgv, show (vL v).toNat = l.toNat by omega]; exact h42_2), (by rw [hgv, show (vL v).toNat = l.toNat by omega]; exact h42_3)⟩, h42_4⟩
              · refine z_aload_n C dX6_isWay_50 0 rfl ?_
                refine z_getR C ffX6_44 dX6_isWay_51 (by decide) rfl rfl ?_
                refine z_iload_n C dX6_isWay_54 1 rfl ?_
                refine z_iald C dX6_isWay_55 (by decide) rfl (by omega) (by decide) (fun hr7 => ?_)
                rw [show mb 36 l = gW s l by rw [h42_4 36 (by omega) (by omega)]; exact hw l (by omega) (by omega)]
                have hwb := how l (by omega) (by omega)
                refine z_bipush C dX6_isWay_56 (by decide) ?_
                refine z_icmp_ne C dX6_isWay_58 (tgt := 64) (by decide) (by omega) (by decide) (fun c8 => ?_) (fun c8 => ?_)
                · refine z_aload_n C dX6_isWay_64 0 rfl ?_
                  refine z_getR C ffX6_44 dX6_isWay_65 (by decide) rfl rfl ?_
                  refine z_iload_n C dX6_isWay_68 1 rfl ?_
                  refine z_iald C dX6_isWay_69 (by decide) rfl (by omega) (by decide) (fun hr9 => ?_)
                  rw [show mb 36 l = gW s l by rw [h42_4 36 (by omega) (by omega)]; exact hw l (by omega) (by omega)]
                  refine z_aload_n C dX6_isWay_70 0 rfl ?_
                  refine z_getI C ffX6_13 dX6_isWay_71 (by decide) rfl rfl 1 rfl (fun hr10 => ?_)
                  rw [show mb 31 1 = vR v by rw [h42_4 31 (by omega) (by omega)]; exact hq2]
                  refine z_icmp_ge C dX6_isWay_74 (tgt := 91) (by decide) (by omega) (by omega) (fun c11 => ?_) (fun c11 => ?_)
                  · refine z_iconst C dX6_isWay_91 ?_
                    exact E dX6_isWay_92 (by decide) (z_nb (Or.inl rfl)) ⟨Or.inr ⟨rfl, (by rw [hgv]; exact fun z => by have hx := z.2; rw [show (vL v).toNat = (l + 1).toNat + (vL v - (l + 1)).toNat by omega, sHr_no v (gW s) (by rw [sHr_s v (gW s) (by omega), if_pos h42_2, if_neg (by omega), if_neg (fun y => by omega)])] at hx; cases hx)⟩, h42_4⟩
                  · refine z_aload_n C dX6_isWay_77 0 rfl ?_
                    refine z_getR C ffX6_80 dX6_isWay_78 (by decide) rfl rfl ?_
                    refine z_aload_n C dX6_isWay_81 0 rfl ?_
                    refine z_getR C ffX6_44 dX6_isWay_82 (by decide) rfl rfl ?_
                    refine z_iload_n C dX6_isWay_85 1 rfl ?_
                    refine z_iald C dX6_isWay_86 (by decide) rfl (by omega) (by decide) (fun hr12 => ?_)
                    rw [show mb 36 l = gW s l by rw [h42_4 36 (by omega) (by omega)]; exact hw l (by omega) (by omega)]
                    refine z_iald C dX6_isWay_87 (by decide) rfl (by omega) (by decide) (fun hr13 => ?_)
                    have gk := (h42_3 (gW s l) (by omega) (by omega)).2
                    refine z_if_lt C dX6_isWay_88 (tgt := 93) (by decide) (by omega) (fun c14 => ?_) (fun c14 => ?_)
                    · have hgg : (sHr v (gW s) l.toNat).2 (5 + gW s l) = -9 := by omega
                      refine z_aload_n C dX6_isWay_93 0 rfl ?_
                      refine z_getR C ffX6_77 dX6_isWay_94 (by decide) rfl rfl ?_
                      refine z_iload_n C dX6_isWay_97 1 rfl ?_
                      refine z_aload_n C dX6_isWay_98 0 rfl ?_
                      refine z_getR C ffX6_44 dX6_isWay_99 (by decide) rfl rfl ?_
                      refine z_iload_n C dX6_isWay_102 1 rfl ?_
                      refine z_iald C dX6_isWay_103 (by decide) rfl (by omega) (by decide) (fun hr15 => ?_)
                      rw [show mb 36 l = gW s l by rw [h42_4 36 (by omega) (by omega)]; exact hw l (by omega) (by omega)]
                      refine z_iast C dX6_isWay_104 (by decide) rfl (by omega) (by decide) (by omega) ?_
                      refine z_mem (fun m16 em16 => ?_)
                      refine z_aload_n C dX6_isWay_105 0 rfl ?_
                      refine z_getR C ffX6_80 dX6_isWay_106 (by decide) rfl rfl ?_
                      refine z_aload_n C dX6_isWay_109 0 rfl ?_
                      refine z_getR C ffX6_44 dX6_isWay_110 (by decide) rfl rfl ?_
                      refine z_iload_n C dX6_isWay_113 1 rfl ?_
                      refine z_iald C dX6_isWay_114 (by decide) rfl (by omega) (by decide) (fun hr17 => ?_)
                      rw [show m16 36 l = gW s l by rw [em16, zs_ne _ _ _ (by omega), h42_4 36 (by omega) (by omega)]; exact hw l (by omega) (by omega)]
                      refine z_iload_n C dX6_isWay_115 1 rfl ?_
                      refine z_iast C dX6_isWay_116 (by decide) rfl (by omega) (by decide) (by omega) ?_
                      refine z_mem (fun m18 em18 => ?_)
                      refine z_iinc C dX6_isWay_117 1 rfl (by decide) (L' := [(0, _), (1, _)]) rfl ?_
                      refine z_goto C dX6_isWay_120 (tgt := 42) (by decide) ?_
                      exact ih42 _ m18 (by omega) (by omega) (by rw [sHr_s v (gW s) (by omega), if_pos h42_2, if_neg (by omega), if_pos ⟨by omega, hgg⟩]) (by rw [sHr_s v (gW s) (by omega), if_pos h42_2, if_neg (by omega), if_pos ⟨by omega, hgg⟩]; exact zWy_give h42_3 (by omega) (by omega) em16 em18) (fun x y z => by rw [em18, zs_ne _ _ _ (by omega), em16, zs_ne _ _ _ (by omega)]; exact h42_4 x y z) (by omega)
                    · refine z_iconst C dX6_isWay_91 ?_
                      exact E dX6_isWay_92 (by decide) (z_nb (Or.inl rfl)) ⟨Or.inr ⟨rfl, (by rw [hgv]; exact fun z => by have hx := z.2; rw [show (vL v).toNat = (l + 1).toNat + (vL v - (l + 1)).toNat by omega, sHr_no v (gW s) (by rw [sHr_s v (gW s) (by omega), if_pos h42_2, if_neg (by omega), if_neg (fun y => by omega)])] at hx; cases hx)⟩, h42_4⟩
                · refine z_goto C dX6_isWay_61 (tgt := 117) (by decide) ?_
                  refine z_iinc C dX6_isWay_117 1 rfl (by decide) (L' := [(0, _), (1, _)]) rfl ?_
                  refine z_goto C dX6_isWay_120 (tgt := 42) (by decide) ?_
                  exact ih42 _ mb (by omega) (by omega) (by rw [sHr_s v (gW s) (by omega), if_pos h42_2, if_pos (by omega)]; exact h42_2) (by rw [sHr_s v (gW s) (by omega), if_pos h42_2, if_pos (by omega)]; exact h42_3) h42_4 (by omega)
          exact LP42 _ 0 ma (by omega) (by omega) rfl (zWy_0 (fun x x0 x1 => h15_2 x x0 (by omega))) h15_3 (Nat.lt_succ_self _)
        · refine z_aload_n C dX6_isWay_20 0 rfl ?_
          refine z_getR C ffX6_77 dX6_isWay_21 (by decide) rfl rfl ?_
          refine z_iload_n C dX6_isWay_24 1 rfl ?_
          refine z_iconst C dX6_isWay_25 ?_
          refine z_iast C dX6_isWay_26 (by decide) rfl (by omega) (by decide) (by decide) ?_
          refine z_mem (fun m19 em19 => ?_)
          refine z_aload_n C dX6_isWay_27 0 rfl ?_
          refine z_getR C ffX6_80 dX6_isWay_28 (by decide) rfl rfl ?_
          refine z_iload_n C dX6_isWay_31 1 rfl ?_
          refine z_iconst C dX6_isWay_32 ?_
          refine z_iast C dX6_isWay_33 (by decide) rfl (by omega) (by decide) (by decide) ?_
          refine z_mem (fun m20 em20 => ?_)
          refine z_iinc C dX6_isWay_34 1 rfl (by decide) (L' := [(0, _), (1, _)]) rfl ?_
          refine z_goto C dX6_isWay_37 (tgt := 15) (by decide) ?_
          exact ih15 _ m20 (by omega) (by omega) (fun x x0 x1 => ⟨(by rw [em20, zs_ne _ _ _ (by omega), em19]; exact zs_upto (f := fun _ => -1) (fun y y0 y1 => (h15_2 y y0 y1).1) rfl x x0 x1), (by rw [em20]; exact zs_upto (f := fun _ => -1) (fun y y0 y1 => by rw [em19, zs_ne _ _ _ (by omega)]; exact (h15_2 y y0 y1).2) rfl x x0 x1)⟩) (fun x y z => by rw [em20, zs_ne _ _ _ z, em19, zs_ne _ _ _ y]; exact h15_3 x y z) (by omega)
    exact LP15 _ 0 μ (by omega) (by omega) (fun x x0 x1 => by omega) (fun _ _ _ => rfl) (Nat.lt_succ_self _)
  · refine z_iconst C dX6_isWay_11 ?_
    exact E dX6_isWay_12 (by decide) (z_nb (Or.inl rfl)) ⟨Or.inr ⟨rfl, (by rw [hgv]; exact fun z => absurd z.1 (by omega))⟩, fun _ _ _ => rfl⟩
set_option maxHeartbeats 4000000 in
theorem c_X6_rather (l : Launch) (μ : zM) (s : zS) (hs : zRf μ s) (hso : sOK s) : zMi l yX6_rather cX6_rather 1 (.int) 2 45 [.inr 31] μ (fun (r : Int) (m : zM) => r = (tRather s).1 ∧ zRf m (tRather s).2 ∧ ∀ a, (a < 31 ∨ 48 ≤ a) → m a = μ a) := by
  refine zMi_of (own := RX6) (by decide +kernel) rfl (Nat.le_of_ble_eq_true rfl) ?_
  intro X hX C hrm E
  subst hX
  show zJ X 1 μ 0 [(0, .inr 31)] []
  obtain ⟨hq, hk, hi, hl, hm, hw, hf⟩ := id hs
  obtain ⟨ho, hok, hoi, hon, hot, hom, how⟩ := id hso
  generalize hgv : gV s = v at hq ho
  obtain ⟨hq1, hq2, hq3, hq4, hq5, hq6, hq7⟩ := id hq
  obtain ⟨ho1, ho2, ho3, ho4, ho5, ho6, ho7⟩ := id ho
  have hN := vN_ok ho
  refine z_aload_n C dX6_rather_0 0 rfl ?_
  refine z_callVi C (c_X6_isWay (zl X) μ s hs hso) yyX6_isWay mlX6_268 (zRc_of (i := 31) C (by decide) rfl rfl) dX6_rather_1 rfl rfl (Nat.le_of_ble_eq_true rfl) (by decide) (fun r1 m1 hr1 hp1 => ?_)
  obtain ⟨hh, hg⟩ := hp1
  rw [hgv] at hh
  have hrb : r1 = 0 ∨ r1 = 1 := by rcases hh with h | h <;> omega
  have hgq : zQ m1 v := (zQ_fr hq (fun x _ _ => by rw [hg 31 (by omega) (by omega)]) (by rw [hg 32 (by omega) (by omega)]) (by rw [hg 33 (by omega) (by omega)]) (by rw [hg 34 (by omega) (by omega)]))
  refine z_if_eq C dX6_rather_4 (tgt := 14) (by decide) (by omega) (fun c2 => ?_) (fun c2 => ?_)
  · refine z_aload_n C dX6_rather_14 0 rfl ?_
    refine z_bipush C dX6_rather_15 (by decide) ?_
    refine z_callVi C (c_X6_no (zl X) m1 3 (by omega)) yyX6_no mlX6_128 (zRc_of (i := 31) C (by decide) rfl rfl) dX6_rather_17 rfl rfl (Nat.le_of_ble_eq_true rfl) (by decide) (fun r3 m3 hr3 hp3 => ?_)
    rw [hp3.1]
    exact E dX6_rather_20 (by decide) rfl (t_fin (P := zRf) (show tRather s = ((-3), pF s 3) by unfold tRather; (first | rw [hgv] | skip); rw [if_neg (hh.resolve_left (fun z => by omega)).2]) (by rw [hp3.2]; exact zRf_F (zRf_fr hs (fun a x _ => by rw [hg a (by omega) (by omega)])) (by omega)) (fun a _ => by rw [hp3.2, zs_ne _ _ _ (by omega), hg a (by omega) (by omega)]))
  · have hh2 := hh.resolve_right (fun z => by omega)
    have hFb := sFw_b ho (sHr v (gW s) (vL v).toNat).2
    refine z_aload_n C dX6_rather_7 0 rfl ?_
    refine z_callVi C (c_X6_firstRather (zl X) m1 v hgq ho (sHr v (gW s) (vL v).toNat).2 hh2.2.2.2) yyX6_firstRather mlX6_265 (zRc_of (i := 31) C (by decide) rfl rfl) dX6_rather_8 rfl rfl (Nat.le_of_ble_eq_true rfl) (by decide) (fun r4 m4 hr4 hp4 => ?_)
    obtain ⟨rfl, hp4⟩ := hp4
    refine z_goto C dX6_rather_11 (tgt := 20) (by decide) ?_
    rw [hp4]
    exact E dX6_rather_20 (by omega) rfl (t_fin (P := zRf) (show tRather s = (sFw v (sHr v (gW s) (vL v).toNat).2, s) by unfold tRather; (first | rw [hgv] | skip); rw [if_pos ⟨hh2.2.1, hh2.2.2.1⟩]) (zRf_fr hs (fun a x _ => by rw [hg a (by omega) (by omega)])) (fun a _ => by rw [hg a (by omega) (by omega)]))
