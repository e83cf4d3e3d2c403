/-! contracts: the reference: statements, texts, evening -/
set_option maxHeartbeats 4000000 in
theorem c_X6_takesStatement (l : Launch) (μ : zM) (tx : Int → Int) (n : Int) (hx : zQl μ tx n) (p : Int) (hp : μ 31 13 = p) (hpn : 0 ≤ p ∧ p ≤ n) : zMi l yX6_takesStatement cX6_takesStatement 2 (.boolean) 6 124 [.inr 31] μ (fun (r : Int) (m : zM) => (((r = 1 ∧ (sSta tx n p).1 = true ∧ zFld m tx p) ∨ (r = 0 ∧ (sSta tx n p).1 = false)) ∧ m 31 13 = (sSta tx n p).2) ∧ ∀ x y, ¬ (x = 31 ∧ (y = 13 ∨ y = 14 ∨ y = 15 ∨ y = 16 ∨ y = 17)) → m x y = μ x y) := by
  refine zMi_of (own := RX6) (by decide +kernel) rfl (Nat.le_of_ble_eq_true rfl) ?_
  intro X hX C hrm E
  subst hX
  show zJ X 2 μ 0 [(0, .inr 31)] []
  obtain ⟨x1, x2, x3⟩ := id hx
  refine z_aload_n C dX6_takesStatement_0 0 rfl ?_
  refine z_callVi C (c_X6_next (zl X) μ tx n hx p hp (by omega)) yyX6_next mlX6_132 (zRc_of (i := 31) C (by decide) rfl rfl) dX6_takesStatement_1 rfl rfl (Nat.le_of_ble_eq_true rfl) (by decide) (fun r1 m1 hr1 hp1 => ?_)
  obtain ⟨rfl, hp1⟩ := hp1
  have hnn := hp1
  refine z_istore_n C dX6_takesStatement_4 (by decide) (L' := [(0, _), (1, _)]) rfl ?_
  have JP37 : (p < n ∧ r1 = tx p ∧ (tx p = 108 ∨ tx p = 114 ∨ tx p = 107 ∨ tx p = 111 ∨ tx p = 119)) →  zJ X 2 μ 37 [(0, .inr 31), (1, .inl r1)] [] := by
    intro j37_0
    have hxp := (x3 p (by omega) (by omega)).2
    have h5 := zFm_lt5 j37_0.2.2
    have hkk := zFm_1 h5
    have hcn : p < n ∧ r1 = tx p := ⟨j37_0.1, j37_0.2.1⟩
    clear j37_0 hnn
    refine z_aload_n C dX6_takesStatement_37 0 rfl ?_
    refine z_dup C dX6_takesStatement_38 ?_
    refine z_getI C ffX6_50 dX6_takesStatement_39 (by decide) rfl rfl 13 rfl (fun hr2 => ?_)
    rw [hp]
    refine z_iconst C dX6_takesStatement_42 ?_
    refine z_iadd C dX6_takesStatement_43 ?_
    refine z_putI C ffX6_50 fp6_13 dX6_takesStatement_44 (by decide) rfl rfl 13 rfl (by omega) ?_
    refine z_mem (fun m3 em3 => ?_)
    have e13 : m3 31 13 = p + 1 := by rw [em3, zs_self]
    refine z_aload_n C dX6_takesStatement_47 0 rfl ?_
    refine z_iload_n C dX6_takesStatement_48 1 rfl ?_
    refine z_callVi C (c_X6_takesRest (zl X) m3 tx n (zQl_fr hx (by rw [em3, zs_o _ _ (by omega)]) (funext fun y => by rw [em3, zs_o _ _ (by omega)])) (p + 1) (by omega) (by omega) r1 (by omega)) yyX6_takesRest mlX6_155 (zRc_of (i := 31) C (by decide) rfl rfl) dX6_takesStatement_49 rfl rfl (Nat.le_of_ble_eq_true rfl) (by decide) (fun r4 m4 hr4 hp4 => ?_)
    have hmid : zMid m4 tx n p r4 := by
      rcases hkk with ⟨f, k⟩ | ⟨f, k⟩ | ⟨f, k⟩ | ⟨f, k⟩
      · exact ts_1 hcn.1 f k (hp4.1 (by omega))
      · exact ts_2 hcn.1 f k (hp4.2.1 (by omega))
      · exact ts_3 hcn.1 f k (hp4.2.2.1 (by omega))
      · exact ts_4 hcn.1 f k (hp4.2.2.2.1 (by omega))
    refine z_if_eq C dX6_takesStatement_52 (tgt := 68) (by decide) (by omega) (fun c5 => ?_) (fun c5 => ?_)
    · refine z_iconst C dX6_takesStatement_68 ?_
      exact E dX6_takesStatement_69 (by decide) (z_nb (Or.inl rfl)) ⟨ts_no1 hmid (by omega), (fun x y e => by rw [hp4.2.2.2.2 x y (by omega), em3, zs_o _ _ (by omega)])⟩
    · have hin : 0 ≤ m4 31 13 ∧ m4 31 13 ≤ n := by
        rcases hmid with ⟨a, -⟩ | ⟨-, a, -⟩ <;> omega
      refine z_aload_n C dX6_takesStatement_55 0 rfl ?_
      refine z_bipush C dX6_takesStatement_56 (by decide) ?_
      refine z_callVi C (c_X6_takes (zl X) m4 tx n (zQl_fr hx (by rw [hp4.2.2.2.2 31 5 (by omega), em3, zs_o _ _ (by omega)]) (funext fun y => by rw [hp4.2.2.2.2 35 y (by omega), em3, zs_o _ _ (by omega)])) (m4 31 13) rfl hin 59 (by omega)) yyX6_takes mlX6_158 (zRc_of (i := 31) C (by decide) rfl rfl) dX6_takesStatement_58 rfl rfl (Nat.le_of_ble_eq_true rfl) (by decide) (fun r6 m6 hr6 hp6 => ?_)
      have htt := hp6
      refine z_if_eq C dX6_takesStatement_61 (tgt := 68) (by decide) (by omega) (fun c7 => ?_) (fun c7 => ?_)
      · refine z_iconst C dX6_takesStatement_68 ?_
        exact E dX6_takesStatement_69 (by decide) (z_nb (Or.inl rfl)) ⟨ts_no2 hmid (by omega) htt (by omega), (fun x y e => by rw [hp6.2 x y (by omega), hp4.2.2.2.2 x y (by omega), em3, zs_o _ _ (by omega)])⟩
      · refine z_iconst C dX6_takesStatement_64 ?_
        refine z_goto C dX6_takesStatement_65 (tgt := 69) (by decide) ?_
        exact E dX6_takesStatement_69 (by decide) (z_nb (Or.inr rfl)) ⟨ts_yes hmid (by omega) htt (by omega), (fun x y e => by rw [hp6.2 x y (by omega), hp4.2.2.2.2 x y (by omega), em3, zs_o _ _ (by omega)])⟩
  refine z_iload_n C dX6_takesStatement_5 1 rfl ?_
  refine z_bipush C dX6_takesStatement_6 (by decide) ?_
  refine z_icmp_eq C dX6_takesStatement_8 (tgt := 37) (by decide) (by omega) (by decide) (fun c8 => ?_) (fun c8 => ?_)
  · exact JP37  (by omega)
  · refine z_iload_n C dX6_takesStatement_11 1 rfl ?_
    refine z_bipush C dX6_takesStatement_12 (by decide) ?_
    refine z_icmp_eq C dX6_takesStatement_14 (tgt := 37) (by decide) (by omega) (by decide) (fun c9 => ?_) (fun c9 => ?_)
    · exact JP37  (by omega)
    · refine z_iload_n C dX6_takesStatement_17 1 rfl ?_
      refine z_bipush C dX6_takesStatement_18 (by decide) ?_
      refine z_icmp_eq C dX6_takesStatement_20 (tgt := 37) (by decide) (by omega) (by decide) (fun c10 => ?_) (fun c10 => ?_)
      · exact JP37  (by omega)
      · refine z_iload_n C dX6_takesStatement_23 1 rfl ?_
        refine z_bipush C dX6_takesStatement_24 (by decide) ?_
        refine z_icmp_eq C dX6_takesStatement_26 (tgt := 37) (by decide) (by omega) (by decide) (fun c11 => ?_) (fun c11 => ?_)
        · exact JP37  (by omega)
        · refine z_iload_n C dX6_takesStatement_29 1 rfl ?_
          refine z_bipush C dX6_takesStatement_30 (by decide) ?_
          refine z_icmp_eq C dX6_takesStatement_32 (tgt := 37) (by decide) (by omega) (by decide) (fun c12 => ?_) (fun c12 => ?_)
          · exact JP37  (by omega)
          · have h5 : ¬ (p < n ∧ zFm (tx p) < 5) := fun z => zFm_no5 (c := tx p) (by omega) z.2
            refine z_iconst C dX6_takesStatement_35 ?_
            exact E dX6_takesStatement_36 (by decide) (z_nb (Or.inl rfl)) (by rw [sSta_no h5]; exact ⟨⟨Or.inr ⟨rfl, rfl⟩, hp⟩, fun _ _ _ => rfl⟩)
set_option maxHeartbeats 4000000 in
theorem c_X6_isText (l : Launch) (μ : zM) (tx : Int → Int) (n : Int) (hx : zQl μ tx n) : zMi l yX6_isText cX6_isText 2 (.boolean) 7 145 [.inr 31] μ (fun (r : Int) (m : zM) => ((r = 1 ∧ sBad tx n = -9) ∨ (r = 0 ∧ sBad tx n = m 31 13 ∧ 0 ≤ m 31 13 ∧ m 31 13 ≤ n)) ∧ ∀ x y, ¬ (x = 31 ∧ (y = 13 ∨ y = 14 ∨ y = 15 ∨ y = 16 ∨ y = 17)) → m x y = μ x y) := by
  refine zMi_of (own := RX6) (by decide +kernel) rfl (Nat.le_of_ble_eq_true rfl) ?_
  intro X hX C hrm E
  subst hX
  show zJ X 2 μ 0 [(0, .inr 31)] []
  obtain ⟨x1, x2, x3⟩ := id hx
  refine z_aload_n C dX6_isText_0 0 rfl ?_
  refine z_iconst C dX6_isText_1 ?_
  refine z_putI C ffX6_50 fp6_13 dX6_isText_2 (by decide) rfl rfl 13 rfl (by decide) ?_
  refine z_mem (fun m1 em1 => ?_)
  have e13 : m1 31 13 = 0 := by rw [em1, zs_self]
  refine z_aload_n C dX6_isText_5 0 rfl ?_
  refine z_callVi C (c_X6_takesStatement (zl X) m1 tx n (zQl_fr hx (by rw [em1, zs_o _ _ (by omega)]) (funext fun y => by rw [em1, zs_o _ _ (by omega)])) 0 e13 (by omega)) yyX6_takesStatement mlX6_161 (zRc_of (i := 31) C (by decide) rfl rfl) dX6_isText_6 rfl rfl (Nat.le_of_ble_eq_true rfl) (by decide) (fun r2 m2 hr2 hp2 => ?_)
  have hst := hp2.1
  have hrb : (r2 = 1 ∧ (sSta tx n 0).1 = true) ∨ (r2 = 0 ∧ (sSta tx n 0).1 = false) := by
    rcases hst.1 with ⟨a, b, -⟩ | ⟨a, b⟩
    · exact Or.inl ⟨a, b⟩
    · exact Or.inr ⟨a, b⟩
  have hin := sSta_in (tx := tx) (n := n) (p := 0) (by omega)
  have hT := isT_0 x2.1 hrb
  have hr01 : r2 = 1 ∨ r2 = 0 := by
    rcases hrb with ⟨a, -⟩ | ⟨a, -⟩ <;> omega
  have hgt : r2 = 1 → 0 < (sSta tx n 0).2 := fun z => hin.2.2 (by rcases hrb with ⟨-, b⟩ | ⟨a, -⟩; exact b; omega)
  have hn0 : n = 0 → r2 = 0 := fun z => by
    rcases hr01 with a | a
    · have := hgt a; omega
    · exact a
  clear hrb
  refine z_istore_n C dX6_isText_9 (by decide) (L' := [(0, _), (1, _)]) rfl ?_
  have LP10 : ∀ (N10 : Nat) (b : Int) (p : Int) (k : Int) (ma : zM), (0 ≤ p ∧ p ≤ n) → (b = 1 ∨ b = 0) → (0 ≤ k ∧ (b = 1 → k ≤ p)) → (ma 31 13 = p) → (∀ x y, ¬ (x = 31 ∧ (y = 13 ∨ y = 14 ∨ y = 15 ∨ y = 16 ∨ y = 17)) → ma x y = μ x y) → (b = 1 → sTxt tx n n.toNat 0 = sTxt tx n (n - k).toNat p) → (b = 0 → n = 0 ∨ sTxt tx n n.toNat 0 = (false, p)) → (n = 0 → b = 0) → (2 * (97 - p) + b).toNat < N10 → zJ X 2 ma 10 [(0, .inr 31), (1, .inl b)] [] := by
    intro N10
    induction N10 with
    | zero => intro b p k ma h10_0 h10_1 h10_2 h10_3 h10_4 h10_5 h10_6 h10_7 hN; exact absurd hN (Nat.not_lt_zero _)
    | succ N10 ih10 =>
      intro b p k ma h10_0 h10_1 h10_2 h10_3 h10_4 h10_5 h10_6 h10_7 hN10
      refine z_iload_n C dX6_isText_10 1 rfl ?_
      refine z_if_eq C dX6_isText_11 (tgt := 33) (by decide) (by omega) (fun c3 => ?_) (fun c3 => ?_)
      · refine z_iload_n C dX6_isText_33 1 rfl ?_
        exact E dX6_isText_34 (by omega) (z_nb (by omega)) ⟨(by rw [h10_3]; exact isT_end (by omega) (by omega) (by omega) h10_5 h10_6 (by omega) (by omega)), h10_4⟩
      · refine z_aload_n C dX6_isText_14 0 rfl ?_
        refine z_getI C ffX6_50 dX6_isText_15 (by decide) rfl rfl 13 rfl (fun hr4 => ?_)
        rw [h10_3]
        refine z_aload_n C dX6_isText_18 0 rfl ?_
        refine z_getI C ffX6_25 dX6_isText_19 (by decide) rfl rfl 5 rfl (fun hr5 => ?_)
        rw [show ma 31 5 = n by rw [h10_4 31 5 (by omega)]; exact x1]
        refine z_icmp_ge C dX6_isText_22 (tgt := 33) (by decide) (by omega) (by omega) (fun c6 => ?_) (fun c6 => ?_)
        · refine z_iload_n C dX6_isText_33 1 rfl ?_
          exact E dX6_isText_34 (by omega) (z_nb (by omega)) ⟨(by rw [h10_3]; exact isT_end (by omega) (by omega) (by omega) h10_5 h10_6 (by omega) (by omega)), h10_4⟩
        · refine z_aload_n C dX6_isText_25 0 rfl ?_
          refine z_callVi C (c_X6_takesStatement (zl X) ma tx n (zQl_fr hx (h10_4 31 5 (by omega)) (funext fun y => h10_4 35 y (by omega))) p h10_3 (by omega)) yyX6_takesStatement mlX6_161 (zRc_of (i := 31) C (by decide) rfl rfl) dX6_isText_26 rfl rfl (Nat.le_of_ble_eq_true rfl) (by decide) (fun r7 m7 hr7 hp7 => ?_)
          have hst2 := hp7.1
          have hrb : (r7 = 1 ∧ (sSta tx n p).1 = true) ∨ (r7 = 0 ∧ (sSta tx n p).1 = false) := by
            rcases hst2.1 with ⟨a, b, -⟩ | ⟨a, b⟩
            · exact Or.inl ⟨a, b⟩
            · exact Or.inr ⟨a, b⟩
          have hin := sSta_in (tx := tx) (n := n) (p := p) (by omega)
          have hT2 := isT_1 (q := (sSta tx n p).2) (by omega) (by omega) (h10_5 (by omega)) hrb rfl
          have hr01 : r7 = 1 ∨ r7 = 0 := by
            rcases hrb with ⟨a, -⟩ | ⟨a, -⟩ <;> omega
          have hgt : r7 = 1 → p < (sSta tx n p).2 := fun z => hin.2.2 (by rcases hrb with ⟨-, b⟩ | ⟨a, -⟩; exact b; omega)
          clear hrb
          refine z_istore_n C dX6_isText_29 (by decide) (L' := [(0, _), (1, _)]) rfl ?_
          refine z_goto C dX6_isText_30 (tgt := 10) (by decide) ?_
          exact ih10 _ (sSta tx n p).2 (k + 1) m7 (by omega) (by omega) (by omega) hst2.2 (fun x y e => by rw [hp7.2 x y (by omega)]; exact h10_4 x y e) hT2.1 (fun z => Or.inr (hT2.2 z)) (fun z => by omega) (by omega)
  exact LP10 _ _ (sSta tx n 0).2 1 m2 (by omega) (by omega) (by omega) hst.2 (fun x y e => by rw [hp2.2 x y (by omega), em1, zs_o _ _ (by omega)]) hT.1 hT.2 (by omega) (Nat.lt_succ_self _)
set_option maxHeartbeats 4000000 in
theorem c_X6_isGood (l : Launch) (μ : zM) (c a b o t : Int) (hc : 0 ≤ c ∧ c ≤ 255) (ha : 0 ≤ a ∧ a ≤ 5) (hb : 0 ≤ b ∧ b ≤ 5) (ho : μ 31 14 = o) (ht : μ 31 15 = t) : zMi l yX6_isGood cX6_isGood 4 (.boolean) 2 46 [.inr 31, .inl c, .inl a, .inl b] μ (fun (r : Int) (m : zM) => μ = m ∧ ((r = 1 ∧ zGdR c a b o t) ∨ (r = 0 ∧ ¬ zGdR c a b o t))) := by
  refine zMi_of (own := RX6) (by decide +kernel) rfl (Nat.le_of_ble_eq_true rfl) ?_
  intro X hX C hrm E
  subst hX
  show zJ X 4 μ 0 [(0, .inr 31), (1, .inl c), (2, .inl a), (3, .inl b)] []
  refine z_iload_n C dX6_isGood_0 1 rfl ?_
  by_cases e1_d : c < 107 ∨ 114 < c
  · refine z_tabOut C dX6_isGood_1 (by omega) (by omega) (tgt := 144) (by decide) ?_
    refine z_aload_n C dX6_isGood_144 0 rfl ?_
    refine z_getI C ffX6_53 dX6_isGood_145 (by decide) rfl rfl 14 rfl (fun hr2 => ?_)
    rw [ho]
    refine z_iconst C dX6_isGood_148 ?_
    refine z_icmp_ge C dX6_isGood_149 (tgt := 156) (by decide) (by omega) (by decide) (fun c3 => ?_) (fun c3 => ?_)
    · refine z_iconst C dX6_isGood_156 ?_
      exact E dX6_isGood_157 (by decide) (z_nb (Or.inl rfl)) ⟨rfl, Or.inr ⟨rfl, fun g => by have g2 := (zGdR_k.2.2.2.2 (by omega)).1 g; omega⟩⟩
    · refine z_iconst C dX6_isGood_152 ?_
      refine z_goto C dX6_isGood_153 (tgt := 157) (by decide) ?_
      exact E dX6_isGood_157 (by decide) (z_nb (Or.inr rfl)) ⟨rfl, Or.inl ⟨rfl, (zGdR_k.2.2.2.2 (by omega)).2 (by omega)⟩⟩
  have e1_a : c = 107 ∨ c = 108 ∨ c = 109 ∨ c = 110 ∨ c = 111 ∨ c = 112 ∨ c = 113 ∨ c = 114 := by omega
  rcases e1_a with e1_0 | e1_1 | e1_2 | e1_3 | e1_4 | e1_5 | e1_6 | e1_7
  · refine z_tabIn C dX6_isGood_1 (by omega) 0 (by omega) (by omega) (off := 69) (tgt := 70) rfl (by decide) ?_
    refine z_aload_n C dX6_isGood_70 0 rfl ?_
    refine z_aload_n C dX6_isGood_71 0 rfl ?_
    refine z_getI C ffX6_53 dX6_isGood_72 (by decide) rfl rfl 14 rfl (fun hr4 => ?_)
    rw [ho]
    refine z_iload_n C dX6_isGood_75 2 rfl ?_
    refine z_iload_n C dX6_isGood_76 3 rfl ?_
    refine z_callVi C (c_X6_isOf (zl X) μ o a b (by omega) (by omega) (by omega)) yyX6_isOf mlX6_121 (zRc_of (i := 31) C (by decide) rfl rfl) dX6_isGood_77 rfl rfl (Nat.le_of_ble_eq_true rfl) (by decide) (fun r5 m5 hr5 hp5 => ?_)
    obtain ⟨rfl, hp5⟩ := hp5
    rcases hp5 with ⟨rfl, hp5⟩ | ⟨rfl, hp5⟩
    · refine z_if_eq C dX6_isGood_80 (tgt := 115) (by decide) (by decide) (fun c6 => (by exfalso; omega)) (fun _ => ?_)
      refine z_aload_n C dX6_isGood_83 0 rfl ?_
      refine z_aload_n C dX6_isGood_84 0 rfl ?_
      refine z_getI C ffX6_56 dX6_isGood_85 (by decide) rfl rfl 15 rfl (fun hr7 => ?_)
      rw [ht]
      refine z_iload_n C dX6_isGood_88 2 rfl ?_
      refine z_iload_n C dX6_isGood_89 3 rfl ?_
      refine z_callVi C (c_X6_isOf (zl X) μ t a b (by omega) (by omega) (by omega)) yyX6_isOf mlX6_121 (zRc_of (i := 31) C (by decide) rfl rfl) dX6_isGood_90 rfl rfl (Nat.le_of_ble_eq_true rfl) (by decide) (fun r8 m8 hr8 hp8 => ?_)
      obtain ⟨rfl, hp8⟩ := hp8
      rcases hp8 with ⟨rfl, hp8⟩ | ⟨rfl, hp8⟩
      · refine z_if_eq C dX6_isGood_93 (tgt := 115) (by decide) (by decide) (fun c9 => (by exfalso; omega)) (fun _ => ?_)
        refine z_aload_n C dX6_isGood_96 0 rfl ?_
        refine z_getI C ffX6_53 dX6_isGood_97 (by decide) rfl rfl 14 rfl (fun hr10 => ?_)
        rw [ho]
        refine z_iconst C dX6_isGood_100 ?_
        refine z_idiv C dX6_isGood_101 (by omega) ?_
        refine z_aload_n C dX6_isGood_102 0 rfl ?_
        refine z_getI C ffX6_56 dX6_isGood_103 (by decide) rfl rfl 15 rfl (fun hr11 => ?_)
        rw [ht]
        refine z_iconst C dX6_isGood_106 ?_
        refine z_idiv C dX6_isGood_107 (by omega) ?_
        refine z_icmp_eq C dX6_isGood_108 (tgt := 115) (by decide) (by omega) (by omega) (fun c12 => ?_) (fun c12 => ?_)
        · refine z_iconst C dX6_isGood_115 ?_
          exact E dX6_isGood_116 (by decide) (z_nb (Or.inl rfl)) ⟨rfl, Or.inr ⟨rfl, fun g => by have g2 := (zGdR_k.2.2.1 (by omega)).1 g; omega⟩⟩
        · refine z_iconst C dX6_isGood_111 ?_
          refine z_goto C dX6_isGood_112 (tgt := 116) (by decide) ?_
          exact E dX6_isGood_116 (by decide) (z_nb (Or.inr rfl)) ⟨rfl, Or.inl ⟨rfl, (zGdR_k.2.2.1 (by omega)).2 (by omega)⟩⟩
      · refine z_if_eq C dX6_isGood_93 (tgt := 115) (by decide) (by decide) (fun _ => ?_) (fun c13 => (by exfalso; omega))
        refine z_iconst C dX6_isGood_115 ?_
        exact E dX6_isGood_116 (by decide) (z_nb (Or.inl rfl)) ⟨rfl, Or.inr ⟨rfl, fun g => by have g2 := (zGdR_k.2.2.1 (by omega)).1 g; omega⟩⟩
    · refine z_if_eq C dX6_isGood_80 (tgt := 115) (by decide) (by decide) (fun _ => ?_) (fun c14 => (by exfalso; omega))
      refine z_iconst C dX6_isGood_115 ?_
      exact E dX6_isGood_116 (by decide) (z_nb (Or.inl rfl)) ⟨rfl, Or.inr ⟨rfl, fun g => by have g2 := (zGdR_k.2.2.1 (by omega)).1 g; omega⟩⟩
  · refine z_tabIn C dX6_isGood_1 (by omega) 1 (by omega) (by omega) (off := 47) (tgt := 48) rfl (by decide) ?_
    refine z_iload_n C dX6_isGood_48 2 rfl ?_
    refine z_iconst C dX6_isGood_49 ?_
    refine z_icmp_ge C dX6_isGood_50 (tgt := 57) (by decide) (by omega) (by decide) (fun c15 => ?_) (fun c15 => ?_)
    · refine z_iconst C dX6_isGood_57 ?_
      exact E dX6_isGood_58 (by decide) (z_nb (Or.inl rfl)) ⟨rfl, Or.inr ⟨rfl, fun g => by have g2 := (zGdR_k.1 (by omega)).1 g; omega⟩⟩
    · refine z_iconst C dX6_isGood_53 ?_
      refine z_goto C dX6_isGood_54 (tgt := 58) (by decide) ?_
      exact E dX6_isGood_58 (by decide) (z_nb (Or.inr rfl)) ⟨rfl, Or.inl ⟨rfl, (zGdR_k.1 (by omega)).2 (by omega)⟩⟩
  · refine z_tabIn C dX6_isGood_1 (by omega) 2 (by omega) (by omega) (off := 143) (tgt := 144) rfl (by decide) ?_
    refine z_aload_n C dX6_isGood_144 0 rfl ?_
    refine z_getI C ffX6_53 dX6_isGood_145 (by decide) rfl rfl 14 rfl (fun hr16 => ?_)
    rw [ho]
    refine z_iconst C dX6_isGood_148 ?_
    refine z_icmp_ge C dX6_isGood_149 (tgt := 156) (by decide) (by omega) (by decide) (fun c17 => ?_) (fun c17 => ?_)
    · refine z_iconst C dX6_isGood_156 ?_
      exact E dX6_isGood_157 (by decide) (z_nb (Or.inl rfl)) ⟨rfl, Or.inr ⟨rfl, fun g => by have g2 := (zGdR_k.2.2.2.2 (by omega)).1 g; omega⟩⟩
    · refine z_iconst C dX6_isGood_152 ?_
      refine z_goto C dX6_isGood_153 (tgt := 157) (by decide) ?_
      exact E dX6_isGood_157 (by decide) (z_nb (Or.inr rfl)) ⟨rfl, Or.inl ⟨rfl, (zGdR_k.2.2.2.2 (by omega)).2 (by omega)⟩⟩
  · refine z_tabIn C dX6_isGood_1 (by omega) 3 (by omega) (by omega) (off := 143) (tgt := 144) rfl (by decide) ?_
    refine z_aload_n C dX6_isGood_144 0 rfl ?_
    refine z_getI C ffX6_53 dX6_isGood_145 (by decide) rfl rfl 14 rfl (fun hr18 => ?_)
    rw [ho]
    refine z_iconst C dX6_isGood_148 ?_
    refine z_icmp_ge C dX6_isGood_149 (tgt := 156) (by decide) (by omega) (by decide) (fun c19 => ?_) (fun c19 => ?_)
    · refine z_iconst C dX6_isGood_156 ?_
      exact E dX6_isGood_157 (by decide) (z_nb (Or.inl rfl)) ⟨rfl, Or.inr ⟨rfl, fun g => by have g2 := (zGdR_k.2.2.2.2 (by omega)).1 g; omega⟩⟩
    · refine z_iconst C dX6_isGood_152 ?_
      refine z_goto C dX6_isGood_153 (tgt := 157) (by decide) ?_
      exact E dX6_isGood_157 (by decide) (z_nb (Or.inr rfl)) ⟨rfl, Or.inl ⟨rfl, (zGdR_k.2.2.2.2 (by omega)).2 (by omega)⟩⟩
  · refine z_tabIn C dX6_isGood_1 (by omega) 4 (by omega) (by omega) (off := 116) (tgt := 117) rfl (by decide) ?_
    refine z_aload_n C dX6_isGood_117 0 rfl ?_
    refine z_aload_n C dX6_isGood_118 0 rfl ?_
    refine z_getI C ffX6_53 dX6_isGood_119 (by decide) rfl rfl 14 rfl (fun hr20 => ?_)
    rw [ho]
    refine z_iconst C dX6_isGood_122 ?_
    refine z_iconst C dX6_isGood_123 ?_
    refine z_callVi C (c_X6_in (zl X) μ o 1 4 (by omega) (by omega) (by omega)) yyX6_in mlX6_117 (zRc_of (i := 31) C (by decide) rfl rfl) dX6_isGood_124 rfl rfl (Nat.le_of_ble_eq_true rfl) (by decide) (fun r21 m21 hr21 hp21 => ?_)
    obtain ⟨rfl, hp21⟩ := hp21
    rcases hp21 with ⟨rfl, hp21⟩ | ⟨rfl, hp21⟩
    · refine z_if_eq C dX6_isGood_127 (tgt := 142) (by decide) (by decide) (fun c22 => (by exfalso; omega)) (fun _ => ?_)
      refine z_aload_n C dX6_isGood_130 0 rfl ?_
      refine z_getI C ffX6_56 dX6_isGood_131 (by decide) rfl rfl 15 rfl (fun hr23 => ?_)
      rw [ht]
      refine z_iconst C dX6_isGood_134 ?_
      refine z_icmp_ge C dX6_isGood_135 (tgt := 142) (by decide) (by omega) (by decide) (fun c24 => ?_) (fun c24 => ?_)
      · refine z_iconst C dX6_isGood_142 ?_
        exact E dX6_isGood_143 (by decide) (z_nb (Or.inl rfl)) ⟨rfl, Or.inr ⟨rfl, fun g => by have g2 := (zGdR_k.2.2.2.1 (by omega)).1 g; omega⟩⟩
      · refine z_iconst C dX6_isGood_138 ?_
        refine z_goto C dX6_isGood_139 (tgt := 143) (by decide) ?_
        exact E dX6_isGood_143 (by decide) (z_nb (Or.inr rfl)) ⟨rfl, Or.inl ⟨rfl, (zGdR_k.2.2.2.1 (by omega)).2 (by omega)⟩⟩
    · refine z_if_eq C dX6_isGood_127 (tgt := 142) (by decide) (by decide) (fun _ => ?_) (fun c25 => (by exfalso; omega))
      refine z_iconst C dX6_isGood_142 ?_
      exact E dX6_isGood_143 (by decide) (z_nb (Or.inl rfl)) ⟨rfl, Or.inr ⟨rfl, fun g => by have g2 := (zGdR_k.2.2.2.1 (by omega)).1 g; omega⟩⟩
  · refine z_tabIn C dX6_isGood_1 (by omega) 5 (by omega) (by omega) (off := 143) (tgt := 144) rfl (by decide) ?_
    refine z_aload_n C dX6_isGood_144 0 rfl ?_
    refine z_getI C ffX6_53 dX6_isGood_145 (by decide) rfl rfl 14 rfl (fun hr26 => ?_)
    rw [ho]
    refine z_iconst C dX6_isGood_148 ?_
    refine z_icmp_ge C dX6_isGood_149 (tgt := 156) (by decide) (by omega) (by decide) (fun c27 => ?_) (fun c27 => ?_)
    · refine z_iconst C dX6_isGood_156 ?_
      exact E dX6_isGood_157 (by decide) (z_nb (Or.inl rfl)) ⟨rfl, Or.inr ⟨rfl, fun g => by have g2 := (zGdR_k.2.2.2.2 (by omega)).1 g; omega⟩⟩
    · refine z_iconst C dX6_isGood_152 ?_
      refine z_goto C dX6_isGood_153 (tgt := 157) (by decide) ?_
      exact E dX6_isGood_157 (by decide) (z_nb (Or.inr rfl)) ⟨rfl, Or.inl ⟨rfl, (zGdR_k.2.2.2.2 (by omega)).2 (by omega)⟩⟩
  · refine z_tabIn C dX6_isGood_1 (by omega) 6 (by omega) (by omega) (off := 143) (tgt := 144) rfl (by decide) ?_
    refine z_aload_n C dX6_isGood_144 0 rfl ?_
    refine z_getI C ffX6_53 dX6_isGood_145 (by decide) rfl rfl 14 rfl (fun hr28 => ?_)
    rw [ho]
    refine z_iconst C dX6_isGood_148 ?_
    refine z_icmp_ge C dX6_isGood_149 (tgt := 156) (by decide) (by omega) (by decide) (fun c29 => ?_) (fun c29 => ?_)
    · refine z_iconst C dX6_isGood_156 ?_
      exact E dX6_isGood_157 (by decide) (z_nb (Or.inl rfl)) ⟨rfl, Or.inr ⟨rfl, fun g => by have g2 := (zGdR_k.2.2.2.2 (by omega)).1 g; omega⟩⟩
    · refine z_iconst C dX6_isGood_152 ?_
      refine z_goto C dX6_isGood_153 (tgt := 157) (by decide) ?_
      exact E dX6_isGood_157 (by decide) (z_nb (Or.inr rfl)) ⟨rfl, Or.inl ⟨rfl, (zGdR_k.2.2.2.2 (by omega)).2 (by omega)⟩⟩
  · refine z_tabIn C dX6_isGood_1 (by omega) 7 (by omega) (by omega) (off := 58) (tgt := 59) rfl (by decide) ?_
    refine z_iload_n C dX6_isGood_59 3 rfl ?_
    refine z_iconst C dX6_isGood_60 ?_
    refine z_icmp_ge C dX6_isGood_61 (tgt := 68) (by decide) (by omega) (by decide) (fun c30 => ?_) (fun c30 => ?_)
    · refine z_iconst C dX6_isGood_68 ?_
      exact E dX6_isGood_69 (by decide) (z_nb (Or.inl rfl)) ⟨rfl, Or.inr ⟨rfl, fun g => by have g2 := (zGdR_k.2.1 (by omega)).1 g; omega⟩⟩
    · refine z_iconst C dX6_isGood_64 ?_
      refine z_goto C dX6_isGood_65 (tgt := 69) (by decide) ?_
      exact E dX6_isGood_69 (by decide) (z_nb (Or.inr rfl)) ⟨rfl, Or.inl ⟨rfl, (zGdR_k.2.1 (by omega)).2 (by omega)⟩⟩
set_option maxHeartbeats 4000000 in
theorem c_X6_wrongPlace (l : Launch) (μ : zM) (v : zVw) (hq : zQ μ v) (ho : vOK v) (tx : Int → Int) (n : Int) (hx : zQl μ tx n) (hb : (sTxt tx n n.toNat 0).1 = true) : zMi l yX6_wrongPlace cX6_wrongPlace 5 (.int) 7 145 [.inr 31] μ (fun (r : Int) (m : zM) => ((r = -1 ∧ (sCar tx n n.toNat 0 v).1 = -9) ∨ ((0 ≤ r ∧ r < n) ∧ (sCar tx n n.toNat 0 v).1 = r)) ∧ ∀ x y, ¬ (x = 31 ∧ (y = 13 ∨ y = 14 ∨ y = 15 ∨ y = 16 ∨ y = 17)) → m x y = μ x y) := by
  refine zMi_of (own := RX6) (by decide +kernel) rfl (Nat.le_of_ble_eq_true rfl) ?_
  intro X hX C hrm E
  subst hX
  show zJ X 5 μ 0 [(0, .inr 31)] []
  obtain ⟨x1, x2, x3⟩ := id hx
  obtain ⟨hq1, hq2, hq3, hq4, hq5, hq6, hq7⟩ := id hq
  refine z_aload_n C dX6_wrongPlace_0 0 rfl ?_
  refine z_iconst C dX6_wrongPlace_1 ?_
  refine z_putI C ffX6_50 fp6_13 dX6_wrongPlace_2 (by decide) rfl rfl 13 rfl (by decide) ?_
  refine z_mem (fun m1 em1 => ?_)
  refine z_aload_n C dX6_wrongPlace_5 0 rfl ?_
  refine z_getI C ffX6_7 dX6_wrongPlace_6 (by decide) rfl rfl 0 rfl (fun hr2 => ?_)
  rw [show m1 31 0 = vL v by rw [em1, zs_o _ _ (by omega)]; exact hq1]
  refine z_istore_n C dX6_wrongPlace_9 (by decide) (L' := [(0, _), (1, _)]) rfl ?_
  refine z_aload_n C dX6_wrongPlace_10 0 rfl ?_
  refine z_getI C ffX6_13 dX6_wrongPlace_11 (by decide) rfl rfl 1 rfl (fun hr3 => ?_)
  rw [show m1 31 1 = vR v by rw [em1, zs_o _ _ (by omega)]; exact hq2]
  refine z_istore_n C dX6_wrongPlace_14 (by decide) (L' := [(0, _), (1, _), (2, _)]) rfl ?_
  have LP15 : ∀ (N15 : Nat) (a : Int) (b : Int) (p : Int) (k : Int) (w : zVw) (ma : zM), (0 ≤ p ∧ p ≤ n) → (0 ≤ k ∧ k ≤ p) → (ma 31 13 = p) → (∀ x y, ¬ (x = 31 ∧ (y = 13 ∨ y = 14 ∨ y = 15 ∨ y = 16 ∨ y = 17)) → ma x y = μ x y) → ((sTxt tx n (n - k).toNat p).1 = true) → (sCar tx n n.toNat 0 v = sCar tx n (n - k).toNat p w) → (vOK w) → (a = vL w ∧ b = vR w) → (97 - p).toNat < N15 → zJ X 5 ma 15 [(0, .inr 31), (1, .inl a), (2, .inl b)] [] := by
    intro N15
    induction N15 with
    | zero => intro a b p k w ma h15_0 h15_1 h15_2 h15_3 h15_4 h15_5 h15_6 h15_7 hN; exact absurd hN (Nat.not_lt_zero _)
    | succ N15 ih15 =>
      intro a b p k w ma h15_0 h15_1 h15_2 h15_3 h15_4 h15_5 h15_6 h15_7 hN15
      have hwl := h15_6.1
      have hwr := h15_6.2.1
      refine z_aload_n C dX6_wrongPlace_15 0 rfl ?_
      refine z_getI C ffX6_50 dX6_wrongPlace_16 (by decide) rfl rfl 13 rfl (fun hr4 => ?_)
      rw [h15_2]
      refine z_aload_n C dX6_wrongPlace_19 0 rfl ?_
      refine z_getI C ffX6_25 dX6_wrongPlace_20 (by decide) rfl rfl 5 rfl (fun hr5 => ?_)
      rw [show ma 31 5 = n by rw [h15_3 31 5 (by omega)]; exact x1]
      refine z_icmp_ge C dX6_wrongPlace_23 (tgt := 95) (by decide) (by omega) (by omega) (fun c6 => ?_) (fun c6 => ?_)
      · refine z_iconst C dX6_wrongPlace_95 ?_
        exact E dX6_wrongPlace_96 (by decide) rfl ⟨Or.inl ⟨rfl, by rw [h15_5, sCar_end (by omega)]⟩, h15_3⟩
      · refine z_aload_n C dX6_wrongPlace_26 0 rfl ?_
        refine z_getI C ffX6_50 dX6_wrongPlace_27 (by decide) rfl rfl 13 rfl (fun hr7 => ?_)
        rw [h15_2]
        refine z_istore_n C dX6_wrongPlace_30 (by decide) (L' := [(0, _), (1, _), (2, _), (3, _)]) rfl ?_
        refine z_aload_n C dX6_wrongPlace_31 0 rfl ?_
        refine z_callVi C (c_X6_takesStatement (zl X) ma tx n (zQl_fr hx (h15_3 31 5 (by omega)) (funext fun y => h15_3 35 y (by omega))) p h15_2 (by omega)) yyX6_takesStatement mlX6_161 (zRc_of (i := 31) C (by decide) rfl rfl) dX6_wrongPlace_32 rfl rfl (Nat.le_of_ble_eq_true rfl) (by decide) (fun r8 m8 hr8 hp8 => ?_)
        have hs1 : (sSta tx n p).1 = true := (sTxt_1 (by omega) (by omega) h15_4).1
        have hs2 := (sTxt_1 (by omega) (by omega) h15_4).2
        have hst := hp8.1
        have hfl : zFld m8 tx p := by
          rcases hst.1 with ⟨-, -, f⟩ | ⟨-, f⟩
          · exact f
          · rw [hs1] at f; cases f
        have hin := sSta_in (tx := tx) (n := n) (p := p) (by omega)
        have hlt := hin.2.2 hs1
        have hxp := (x3 p (by omega) (by omega)).2
        refine z_istore C dX6_wrongPlace_35 (by decide) (L' := [(0, _), (1, _), (2, _), (3, _), (4, _)]) rfl ?_
        refine z_aload_n C dX6_wrongPlace_37 0 rfl ?_
        refine z_aload_n C dX6_wrongPlace_38 0 rfl ?_
        refine z_getR C ffX6_41 dX6_wrongPlace_39 (by decide) rfl rfl ?_
        refine z_iload_n C dX6_wrongPlace_42 3 rfl ?_
        refine z_iald C dX6_wrongPlace_43 (by decide) rfl (by omega) (by decide) (fun hr9 => ?_)
        rw [show m8 35 p = tx p by rw [hp8.2 35 p (by omega), h15_3 35 p (by omega)]; exact (x3 p (by omega) (by omega)).1]
        refine z_iload_n C dX6_wrongPlace_44 1 rfl ?_
        refine z_iload_n C dX6_wrongPlace_45 2 rfl ?_
        refine z_callVi C (c_X6_isGood (zl X) m8 (tx p) a b (m8 31 14) (m8 31 15) (by omega) (by omega) (by omega) rfl rfl) yyX6_isGood mlX6_164 (zRc_of (i := 31) C (by decide) rfl rfl) dX6_wrongPlace_46 rfl rfl (Nat.le_of_ble_eq_true rfl) (by decide) (fun r10 m10 hr10 hp10 => ?_)
        obtain ⟨rfl, hp10⟩ := hp10
        rcases hp10 with ⟨rfl, hp10⟩ | ⟨rfl, hp10⟩
        · refine z_if_ne C dX6_wrongPlace_49 (tgt := 54) (by decide) (by decide) (fun _ => ?_) (fun c11 => (by exfalso; omega))
          have hg : sGd tx p w := (zGdR_t h15_6 hs1 hfl).1 (by rw [← h15_7.1, ← h15_7.2]; exact hp10)
          refine z_iload_n C dX6_wrongPlace_54 1 rfl ?_
          refine z_aload_n C dX6_wrongPlace_55 0 rfl ?_
          refine z_getR C ffX6_41 dX6_wrongPlace_56 (by decide) rfl rfl ?_
          refine z_iload_n C dX6_wrongPlace_59 3 rfl ?_
          refine z_iald C dX6_wrongPlace_60 (by decide) rfl (by omega) (by decide) (fun hr12 => ?_)
          rw [show m8 35 p = tx p by rw [hp8.2 35 p (by omega), h15_3 35 p (by omega)]; exact (x3 p (by omega) (by omega)).1]
          refine z_bipush C dX6_wrongPlace_61 (by decide) ?_
          refine z_icmp_ne C dX6_wrongPlace_63 (tgt := 70) (by decide) (by omega) (by decide) (fun c13 => ?_) (fun c13 => ?_)
          · refine z_iconst C dX6_wrongPlace_70 ?_
            refine z_iadd C dX6_wrongPlace_71 ?_
            refine z_istore_n C dX6_wrongPlace_72 (by decide) (L' := [(0, _), (1, _), (2, _), (3, _), (4, _)]) rfl ?_
            refine z_iload_n C dX6_wrongPlace_73 2 rfl ?_
            refine z_aload_n C dX6_wrongPlace_74 0 rfl ?_
            refine z_getR C ffX6_41 dX6_wrongPlace_75 (by decide) rfl rfl ?_
            refine z_iload_n C dX6_wrongPlace_78 3 rfl ?_
            refine z_iald C dX6_wrongPlace_79 (by decide) rfl (by omega) (by decide) (fun hr14 => ?_)
            rw [show m8 35 p = tx p by rw [hp8.2 35 p (by omega), h15_3 35 p (by omega)]; exact (x3 p (by omega) (by omega)).1]
            refine z_bipush C dX6_wrongPlace_80 (by decide) ?_
            refine z_icmp_ne C dX6_wrongPlace_82 (tgt := 89) (by decide) (by omega) (by decide) (fun c15 => ?_) (fun c15 => ?_)
            · refine z_iconst C dX6_wrongPlace_89 ?_
              refine z_iadd C dX6_wrongPlace_90 ?_
              refine z_istore_n C dX6_wrongPlace_91 (by decide) (L' := [(0, _), (1, _), (2, _), (3, _), (4, _)]) rfl ?_
              refine z_goto C dX6_wrongPlace_92 (tgt := 15) (by decide) ?_
              refine z_sub [0, 1, 2] rfl ?_; exact ih15 _ _ (sSta tx n p).2 (k + 1) (sDo tx p w) m8 (by omega) (by omega) hst.2 (fun x y e => by rw [hp8.2 x y (by omega)]; exact h15_3 x y e) hs2 (sCar_go (by omega) (by omega) h15_5 hg) (sDo_ok h15_6 hs1 hg) (by have hLR := sDo_LR tx p w; rw [hLR.1, hLR.2, if_neg (by omega), if_neg (by omega)]; omega) (by omega)
            · refine z_iconst C dX6_wrongPlace_85 ?_
              refine z_goto C dX6_wrongPlace_86 (tgt := 90) (by decide) ?_
              refine z_iadd C dX6_wrongPlace_90 ?_
              refine z_istore_n C dX6_wrongPlace_91 (by decide) (L' := [(0, _), (1, _), (2, _), (3, _), (4, _)]) rfl ?_
              refine z_goto C dX6_wrongPlace_92 (tgt := 15) (by decide) ?_
              refine z_sub [0, 1, 2] rfl ?_; exact ih15 _ _ (sSta tx n p).2 (k + 1) (sDo tx p w) m8 (by omega) (by omega) hst.2 (fun x y e => by rw [hp8.2 x y (by omega)]; exact h15_3 x y e) hs2 (sCar_go (by omega) (by omega) h15_5 hg) (sDo_ok h15_6 hs1 hg) (by have hLR := sDo_LR tx p w; rw [hLR.1, hLR.2, if_neg (by omega), if_pos (by omega)]; omega) (by omega)
          · refine z_iconst C dX6_wrongPlace_66 ?_
            refine z_goto C dX6_wrongPlace_67 (tgt := 71) (by decide) ?_
            refine z_iadd C dX6_wrongPlace_71 ?_
            refine z_istore_n C dX6_wrongPlace_72 (by decide) (L' := [(0, _), (1, _), (2, _), (3, _), (4, _)]) rfl ?_
            refine z_iload_n C dX6_wrongPlace_73 2 rfl ?_
            refine z_aload_n C dX6_wrongPlace_74 0 rfl ?_
            refine z_getR C ffX6_41 dX6_wrongPlace_75 (by decide) rfl rfl ?_
            refine z_iload_n C dX6_wrongPlace_78 3 rfl ?_
            refine z_iald C dX6_wrongPlace_79 (by decide) rfl (by omega) (by decide) (fun hr16 => ?_)
            rw [show m8 35 p = tx p by rw [hp8.2 35 p (by omega), h15_3 35 p (by omega)]; exact (x3 p (by omega) (by omega)).1]
            refine z_bipush C dX6_wrongPlace_80 (by decide) ?_
            refine z_icmp_ne C dX6_wrongPlace_82 (tgt := 89) (by decide) (by omega) (by decide) (fun c17 => ?_) (fun c17 => ?_)
            · refine z_iconst C dX6_wrongPlace_89 ?_
              refine z_iadd C dX6_wrongPlace_90 ?_
              refine z_istore_n C dX6_wrongPlace_91 (by decide) (L' := [(0, _), (1, _), (2, _), (3, _), (4, _)]) rfl ?_
              refine z_goto C dX6_wrongPlace_92 (tgt := 15) (by decide) ?_
              refine z_sub [0, 1, 2] rfl ?_; exact ih15 _ _ (sSta tx n p).2 (k + 1) (sDo tx p w) m8 (by omega) (by omega) hst.2 (fun x y e => by rw [hp8.2 x y (by omega)]; exact h15_3 x y e) hs2 (sCar_go (by omega) (by omega) h15_5 hg) (sDo_ok h15_6 hs1 hg) (by have hLR := sDo_LR tx p w; rw [hLR.1, hLR.2, if_pos (by omega), if_neg (by omega)]; omega) (by omega)
            · refine z_iconst C dX6_wrongPlace_85 ?_
              refine z_goto C dX6_wrongPlace_86 (tgt := 90) (by decide) ?_
              refine z_iadd C dX6_wrongPlace_90 ?_
              refine z_istore_n C dX6_wrongPlace_91 (by decide) (L' := [(0, _), (1, _), (2, _), (3, _), (4, _)]) rfl ?_
              refine z_goto C dX6_wrongPlace_92 (tgt := 15) (by decide) ?_
              refine z_sub [0, 1, 2] rfl ?_; exact ih15 _ _ (sSta tx n p).2 (k + 1) (sDo tx p w) m8 (by omega) (by omega) hst.2 (fun x y e => by rw [hp8.2 x y (by omega)]; exact h15_3 x y e) hs2 (sCar_go (by omega) (by omega) h15_5 hg) (sDo_ok h15_6 hs1 hg) (by have hLR := sDo_LR tx p w; rw [hLR.1, hLR.2, if_pos (by omega), if_pos (by omega)]; omega) (by omega)
        · refine z_if_ne C dX6_wrongPlace_49 (tgt := 54) (by decide) (by decide) (fun c18 => (by exfalso; omega)) (fun _ => ?_)
          have hg : ¬ sGd tx p w := fun g => hp10 (by rw [h15_7.1, h15_7.2]; exact (zGdR_t h15_6 hs1 hfl).2 g)
          refine z_iload_n C dX6_wrongPlace_52 3 rfl ?_
          exact E dX6_wrongPlace_53 (by omega) rfl ⟨Or.inr ⟨(by omega), by rw [sCar_no (by omega) (by omega) h15_5 hg]⟩, (fun x y e => by rw [hp8.2 x y (by omega)]; exact h15_3 x y e)⟩
  exact LP15 _ _ _ 0 0 v m1 (by omega) (by omega) (by rw [em1, zs_self]) (fun x y e => by rw [em1, zs_o _ _ (by omega)]) (by rw [Int.sub_zero]; exact hb) (by rw [Int.sub_zero]) ho ⟨rfl, rfl⟩ (Nat.lt_succ_self _)
set_option maxHeartbeats 4000000 in
theorem c_X6_newOne (l : Launch) (μ : zM) (p k b : Int) (hp : 0 ≤ p ∧ p < 10) (h17 : μ 31 17 = k) (h14 : μ 31 14 = b) : zMv l yX6_newOne cX6_newOne 3 1 22 [.inr 31, .inl p] μ (fun (m : zM) => (∀ x, 0 ≤ x → x < 10 → m 32 x = if x = p then k else μ 32 x) ∧ (∀ x, 0 ≤ x → x < 10 → m 33 x = if x = p then b else μ 33 x) ∧ (∀ x, 0 ≤ x → x < 50 → m 34 x = if zNp p 5 x then 5 else μ 34 x) ∧ ∀ a, a ≠ 32 → a ≠ 33 → a ≠ 34 → m a = μ a) := by
  refine zMv_of (own := RX6) (by decide +kernel) rfl (Nat.le_of_ble_eq_true rfl) ?_
  intro X hX C hrm E
  subst hX
  show zJ X 3 μ 0 [(0, .inr 31), (1, .inl p)] []
  have hkR : zR k := by have := hrm 31 17; omega
  have hbR : zR b := by have := hrm 31 14; omega
  refine z_aload_n C dX6_newOne_0 0 rfl ?_
  refine z_getR C ffX6_31 dX6_newOne_1 (by decide) rfl rfl ?_
  refine z_iload_n C dX6_newOne_4 1 rfl ?_
  refine z_aload_n C dX6_newOne_5 0 rfl ?_
  refine z_getI C ffX6_62 dX6_newOne_6 (by decide) rfl rfl 17 rfl (fun hr1 => ?_)
  rw [h17]
  refine z_iast C dX6_newOne_9 (by decide) rfl (by omega) (by decide) (by omega) ?_
  refine z_mem (fun m2 em2 => ?_)
  refine z_aload_n C dX6_newOne_10 0 rfl ?_
  refine z_getR C ffX6_35 dX6_newOne_11 (by decide) rfl rfl ?_
  refine z_iload_n C dX6_newOne_14 1 rfl ?_
  refine z_aload_n C dX6_newOne_15 0 rfl ?_
  refine z_getI C ffX6_53 dX6_newOne_16 (by decide) rfl rfl 14 rfl (fun hr3 => ?_)
  rw [show m2 31 14 = b by rw [em2, zs_ne _ _ _ (by omega)]; exact h14]
  refine z_iast C dX6_newOne_19 (by decide) rfl (by omega) (by decide) (by omega) ?_
  refine z_mem (fun m4 em4 => ?_)
  refine z_iconst C dX6_newOne_20 ?_
  refine z_istore_n C dX6_newOne_21 (by decide) (L' := [(0, _), (1, _), (2, _)]) rfl ?_
  have LP22 : ∀ (N22 : Nat) (n : Int) (ma : zM), (0 ≤ n ∧ n ≤ 5) → (∀ x, 0 ≤ x → x < 50 → ma 34 x = if zNp p n x then 5 else m4 34 x) → (∀ a, a ≠ 34 → ma a = m4 a) → (6 - n).toNat < N22 → zJ X 3 ma 22 [(0, .inr 31), (1, .inl p), (2, .inl n)] [] := by
    intro N22
    induction N22 with
    | zero => intro n ma h22_0 h22_1 h22_2 hN; exact absurd hN (Nat.not_lt_zero _)
    | succ N22 ih22 =>
      intro n ma h22_0 h22_1 h22_2 hN22
      refine z_iload_n C dX6_newOne_22 2 rfl ?_
      refine z_iconst C dX6_newOne_23 ?_
      refine z_icmp_ge C dX6_newOne_24 (tgt := 62) (by decide) (by omega) (by decide) (fun c5 => ?_) (fun c5 => ?_)
      · exact E dX6_newOne_62 ⟨(fun x x0 x1 => by rw [h22_2 32 (by omega), em4, zs_ne _ _ _ (by omega), em2, zs_at]), (fun x x0 x1 => by rw [h22_2 33 (by omega), em4, zs_at, em2, zs_ne _ _ _ (by omega)]), (fun x x0 x1 => by rw [h22_1 x x0 x1, show n = 5 by omega, em4, zs_ne _ _ _ (by omega), em2, zs_ne _ _ _ (by omega)]), (fun a e1 e2 e3 => by rw [h22_2 a e3, em4, zs_ne _ _ _ e2, em2, zs_ne _ _ _ e1])⟩
      · refine z_aload_n C dX6_newOne_27 0 rfl ?_
        refine z_getR C ffX6_38 dX6_newOne_28 (by decide) rfl rfl ?_
        refine z_iconst C dX6_newOne_31 ?_
        refine z_iload_n C dX6_newOne_32 1 rfl ?_
        refine z_imul C dX6_newOne_33 ?_
        refine z_iload_n C dX6_newOne_34 2 rfl ?_
        refine z_iadd C dX6_newOne_35 ?_
        refine z_iconst C dX6_newOne_36 ?_
        refine z_iast C dX6_newOne_37 (by decide) rfl (by omega) (by decide) (by decide) ?_
        refine z_mem (fun m6 em6 => ?_)
        refine z_aload_n C dX6_newOne_38 0 rfl ?_
        refine z_getR C ffX6_38 dX6_newOne_39 (by decide) rfl rfl ?_
        refine z_iconst C dX6_newOne_42 ?_
        refine z_aload_n C dX6_newOne_43 0 rfl ?_
        refine z_iload_n C dX6_newOne_44 1 rfl ?_
        refine z_iload_n C dX6_newOne_45 2 rfl ?_
        refine z_callVi C (c_X6_otherOf (zl X) m6 p n (by omega) (by omega)) yyX6_otherOf mlX6_167 (zRc_of (i := 31) C (by decide) rfl rfl) dX6_newOne_46 rfl rfl (Nat.le_of_ble_eq_true rfl) (by decide) (fun r7 m7 hr7 hp7 => ?_)
        obtain ⟨rfl, hp7⟩ := hp7
        rw [hp7]
        have hso : sOth p n = if p < 5 then 5 + n else n := rfl
        have hsb : 0 ≤ sOth p n ∧ sOth p n < 10 := by split at hso <;> omega
        clear hso
        refine z_imul C dX6_newOne_49 ?_
        refine z_iload_n C dX6_newOne_50 1 rfl ?_
        refine z_iconst C dX6_newOne_51 ?_
        refine z_irem C dX6_newOne_52 (by omega) ?_
        refine z_iadd C dX6_newOne_53 ?_
        refine z_iconst C dX6_newOne_54 ?_
        refine z_iast C dX6_newOne_55 (by decide) rfl (by omega) (by decide) (by decide) ?_
        refine z_mem (fun m8 em8 => ?_)
        refine z_iinc C dX6_newOne_56 2 rfl (by decide) (L' := [(0, _), (1, _), (2, _)]) rfl ?_
        refine z_goto C dX6_newOne_59 (tgt := 22) (by decide) ?_
        exact ih22 _ m8 (by omega) (by rw [em8, em6]; exact zNp_s (by omega) (by omega) h22_1) (fun x e => by rw [em8, zs_ne _ _ _ e, em6, zs_ne _ _ _ e]; exact h22_2 x e) (by omega)
  exact LP22 _ 0 m4 (by omega) (fun x x0 x1 => by rw [if_neg (by omega)]) (fun _ _ => rfl) (Nat.lt_succ_self _)
set_option maxHeartbeats 4000000 in
theorem c_X6_comes (l : Launch) (μ : zM) (tx : Int → Int) (n p : Int) (v : zVw) (hq : zQ μ v) (ho : vOK v) (hs : (sSta tx n p).1 = true) (hf : zFld μ tx p) (hg : sGdb tx p v = true) : zMv l yX6_comes cX6_comes 2 2 44 [.inr 31, .inl (tx p)] μ (fun (m : zM) => zQ m (sDo tx p v) ∧ ∀ a x, ¬ (a = 31 ∧ x ≤ 4) → ¬ (32 ≤ a ∧ a ≤ 34) → m a x = μ a x) := by
  refine zMv_of (own := RX6) (by decide +kernel) rfl (Nat.le_of_ble_eq_true rfl) ?_
  intro X hX C hrm E
  subst hX
  show zJ X 2 μ 0 [(0, .inr 31), (1, .inl (tx p))] []
  obtain ⟨hq1, hq2, hq3, hq4, hq5, hq6, hq7⟩ := id hq
  have h5 := zFm_1 (sSta_ok hs).2.1
  have hkd := sDo_k (tx := tx) (p := p) v
  obtain ⟨hf1, hf2, hf3, hf4⟩ := id hf
  have ho1 := ho.1
  have ho2 := ho.2.1
  have htb : 0 ≤ tx p ∧ tx p ≤ 255 := by omega
  refine z_iload_n C dX6_comes_0 1 rfl ?_
  by_cases e1_d : (tx p) < 107 ∨ 114 < (tx p)
  · refine z_tabOut C dX6_comes_1 (by omega) (by omega) (tgt := 136) (by decide) ?_
    have h1 := hf4 (by omega)
    refine z_aload_n C dX6_comes_136 0 rfl ?_
    refine z_aload_n C dX6_comes_137 0 rfl ?_
    refine z_getI C ffX6_53 dX6_comes_138 (by decide) rfl rfl 14 rfl (fun hr2 => ?_)
    rw [show μ 31 14 = tx (p + 1) - 48 from h1]
    refine z_putI C ffX6_22 fp6_4 dX6_comes_141 (by decide) rfl rfl 4 rfl (by omega) ?_
    refine z_mem (fun m3 em3 => ?_)
    exact E dX6_comes_144 ⟨(by rw [hkd.2.2.2.2 (by omega), em3]; exact zQ_law hq), (fun a x e1 e2 => by rw [em3, zs_o _ _ (by omega)])⟩
  have e1_a : (tx p) = 107 ∨ (tx p) = 108 ∨ (tx p) = 109 ∨ (tx p) = 110 ∨ (tx p) = 111 ∨ (tx p) = 112 ∨ (tx p) = 113 ∨ (tx p) = 114 := by omega
  rcases e1_a with e1_0 | e1_1 | e1_2 | e1_3 | e1_4 | e1_5 | e1_6 | e1_7
  · refine z_tabIn C dX6_comes_1 (by omega) 0 (by omega) (by omega) (off := 91) (tgt := 92) rfl (by decide) ?_
    have hzu := sGd_u hg (by omega)
    have h1 := hf2 (by omega)
    refine z_aload_n C dX6_comes_92 0 rfl ?_
    refine z_getR C ffX6_38 dX6_comes_93 (by decide) rfl rfl ?_
    refine z_iconst C dX6_comes_96 ?_
    refine z_aload_n C dX6_comes_97 0 rfl ?_
    refine z_getI C ffX6_53 dX6_comes_98 (by decide) rfl rfl 14 rfl (fun hr4 => ?_)
    rw [show μ 31 14 = tx (p + 1) - 48 from h1.1]
    refine z_imul C dX6_comes_101 ?_
    refine z_aload_n C dX6_comes_102 0 rfl ?_
    refine z_getI C ffX6_56 dX6_comes_103 (by decide) rfl rfl 15 rfl (fun hr5 => ?_)
    rw [show μ 31 15 = tx (p + 2) - 48 from h1.2.1]
    refine z_iconst C dX6_comes_106 ?_
    refine z_irem C dX6_comes_107 (by omega) ?_
    refine z_iadd C dX6_comes_108 ?_
    refine z_aload_n C dX6_comes_109 0 rfl ?_
    refine z_getI C ffX6_59 dX6_comes_110 (by decide) rfl rfl 16 rfl (fun hr6 => ?_)
    rw [show μ 31 16 = tx (p + 3) - 48 from h1.2.2]
    refine z_iast C dX6_comes_113 (by decide) rfl (by omega) (by decide) (by omega) ?_
    refine z_mem (fun m7 em7 => ?_)
    refine z_goto C dX6_comes_114 (tgt := 144) (by decide) ?_
    exact E dX6_comes_144 ⟨(by rw [hkd.2.2.1 (by omega), em7]; exact zQ_like hq hzu), (fun a x e1 e2 => by rw [em7, zs_o _ _ (by omega)])⟩
  · refine z_tabIn C dX6_comes_1 (by omega) 1 (by omega) (by omega) (off := 47) (tgt := 48) rfl (by decide) ?_
    have hgl := sGd_l hg (by omega)
    have hO : vOne v 0 = vL v := rfl
    have h1 := hf1 (by omega)
    refine z_aload_n C dX6_comes_48 0 rfl ?_
    refine z_aload_n C dX6_comes_49 0 rfl ?_
    refine z_getI C ffX6_7 dX6_comes_50 (by decide) rfl rfl 0 rfl (fun hr8 => ?_)
    rw [hq1]
    refine z_callVv C (c_X6_newOne (zl X) μ (vL v) (zIx 0 (tx (p + 1))) (tx (p + 2) - 48) (by omega) h1.1 h1.2) yyX6_newOne mlX6_171 (zRc_of (i := 31) C (by decide) rfl rfl) dX6_comes_53 rfl rfl (Nat.le_of_ble_eq_true rfl) (by decide) (fun m9 hp9 => ?_)
    refine z_aload_n C dX6_comes_56 0 rfl ?_
    refine z_dup C dX6_comes_57 ?_
    refine z_getI C ffX6_7 dX6_comes_58 (by decide) rfl rfl 0 rfl (fun hr10 => ?_)
    rw [show m9 31 0 = vL v by rw [hp9.2.2.2 31 (by omega) (by omega) (by omega)]; exact hq1]
    refine z_iconst C dX6_comes_61 ?_
    refine z_iadd C dX6_comes_62 ?_
    refine z_putI C ffX6_7 fp6_0 dX6_comes_63 (by decide) rfl rfl 0 rfl (by omega) ?_
    refine z_mem (fun m11 em11 => ?_)
    refine z_goto C dX6_comes_66 (tgt := 144) (by decide) ?_
    exact E dX6_comes_144 ⟨(by rw [hkd.1 (by omega)]; exact zQ_add hq ho (by omega) (by rw [hO]; exact hp9.1) (by rw [hO]; exact hp9.2.1) (by rw [hO]; exact hp9.2.2.1) (fun x hx => by rw [hp9.2.2.2 31 (by omega) (by omega) (by omega)]) (Or.inl ⟨rfl, em11⟩)), (fun a x e1 e2 => by rw [em11, zs_o _ _ (by omega), hp9.2.2.2 a (by omega) (by omega) (by omega)])⟩
  · refine z_tabIn C dX6_comes_1 (by omega) 2 (by omega) (by omega) (off := 135) (tgt := 136) rfl (by decide) ?_
    have h1 := hf4 (by omega)
    refine z_aload_n C dX6_comes_136 0 rfl ?_
    refine z_aload_n C dX6_comes_137 0 rfl ?_
    refine z_getI C ffX6_53 dX6_comes_138 (by decide) rfl rfl 14 rfl (fun hr12 => ?_)
    rw [show μ 31 14 = tx (p + 1) - 48 from h1]
    refine z_putI C ffX6_22 fp6_4 dX6_comes_141 (by decide) rfl rfl 4 rfl (by omega) ?_
    refine z_mem (fun m13 em13 => ?_)
    exact E dX6_comes_144 ⟨(by rw [hkd.2.2.2.2 (by omega), em13]; exact zQ_law hq), (fun a x e1 e2 => by rw [em13, zs_o _ _ (by omega)])⟩
  · refine z_tabIn C dX6_comes_1 (by omega) 3 (by omega) (by omega) (off := 135) (tgt := 136) rfl (by decide) ?_
    have h1 := hf4 (by omega)
    refine z_aload_n C dX6_comes_136 0 rfl ?_
    refine z_aload_n C dX6_comes_137 0 rfl ?_
    refine z_getI C ffX6_53 dX6_comes_138 (by decide) rfl rfl 14 rfl (fun hr14 => ?_)
    rw [show μ 31 14 = tx (p + 1) - 48 from h1]
    refine z_putI C ffX6_22 fp6_4 dX6_comes_141 (by decide) rfl rfl 4 rfl (by omega) ?_
    refine z_mem (fun m15 em15 => ?_)
    exact E dX6_comes_144 ⟨(by rw [hkd.2.2.2.2 (by omega), em15]; exact zQ_law hq), (fun a x e1 e2 => by rw [em15, zs_o _ _ (by omega)])⟩
  · refine z_tabIn C dX6_comes_1 (by omega) 4 (by omega) (by omega) (off := 116) (tgt := 117) rfl (by decide) ?_
    have h1 := hf3 (by omega)
    have hr15 := hrm 31 15
    refine z_aload_n C dX6_comes_117 0 rfl ?_
    refine z_aload_n C dX6_comes_118 0 rfl ?_
    refine z_getI C ffX6_53 dX6_comes_119 (by decide) rfl rfl 14 rfl (fun hr16 => ?_)
    rw [show μ 31 14 = tx (p + 1) - 48 from h1.1]
    refine z_putI C ffX6_16 fp6_2 dX6_comes_122 (by decide) rfl rfl 2 rfl (by omega) ?_
    refine z_mem (fun m17 em17 => ?_)
    refine z_aload_n C dX6_comes_125 0 rfl ?_
    refine z_aload_n C dX6_comes_126 0 rfl ?_
    refine z_getI C ffX6_56 dX6_comes_127 (by decide) rfl rfl 15 rfl (fun hr18 => ?_)
    rw [show m17 31 15 = tx (p + 2) - 48 by rw [em17, zs_o _ _ (by omega)]; exact h1.2]
    refine z_putI C ffX6_19 fp6_3 dX6_comes_130 (by decide) rfl rfl 3 rfl (by omega) ?_
    refine z_mem (fun m19 em19 => ?_)
    refine z_goto C dX6_comes_133 (tgt := 144) (by decide) ?_
    exact E dX6_comes_144 ⟨(by rw [hkd.2.2.2.1 (by omega), em19, em17]; exact zQ_ord hq), (fun a x e1 e2 => by rw [em19, zs_o _ _ (by omega), em17, zs_o _ _ (by omega)])⟩
  · refine z_tabIn C dX6_comes_1 (by omega) 5 (by omega) (by omega) (off := 135) (tgt := 136) rfl (by decide) ?_
    have h1 := hf4 (by omega)
    refine z_aload_n C dX6_comes_136 0 rfl ?_
    refine z_aload_n C dX6_comes_137 0 rfl ?_
    refine z_getI C ffX6_53 dX6_comes_138 (by decide) rfl rfl 14 rfl (fun hr20 => ?_)
    rw [show μ 31 14 = tx (p + 1) - 48 from h1]
    refine z_putI C ffX6_22 fp6_4 dX6_comes_141 (by decide) rfl rfl 4 rfl (by omega) ?_
    refine z_mem (fun m21 em21 => ?_)
    exact E dX6_comes_144 ⟨(by rw [hkd.2.2.2.2 (by omega), em21]; exact zQ_law hq), (fun a x e1 e2 => by rw [em21, zs_o _ _ (by omega)])⟩
  · refine z_tabIn C dX6_comes_1 (by omega) 6 (by omega) (by omega) (off := 135) (tgt := 136) rfl (by decide) ?_
    have h1 := hf4 (by omega)
    refine z_aload_n C dX6_comes_136 0 rfl ?_
    refine z_aload_n C dX6_comes_137 0 rfl ?_
    refine z_getI C ffX6_53 dX6_comes_138 (by decide) rfl rfl 14 rfl (fun hr22 => ?_)
    rw [show μ 31 14 = tx (p + 1) - 48 from h1]
    refine z_putI C ffX6_22 fp6_4 dX6_comes_141 (by decide) rfl rfl 4 rfl (by omega) ?_
    refine z_mem (fun m23 em23 => ?_)
    exact E dX6_comes_144 ⟨(by rw [hkd.2.2.2.2 (by omega), em23]; exact zQ_law hq), (fun a x e1 e2 => by rw [em23, zs_o _ _ (by omega)])⟩
  · refine z_tabIn C dX6_comes_1 (by omega) 7 (by omega) (by omega) (off := 68) (tgt := 69) rfl (by decide) ?_
    have hgl := sGd_r hg (by omega)
    have hO : vOne v 1 = 5 + vR v := rfl
    have h1 := hf1 (by omega)
    refine z_aload_n C dX6_comes_69 0 rfl ?_
    refine z_iconst C dX6_comes_70 ?_
    refine z_aload_n C dX6_comes_71 0 rfl ?_
    refine z_getI C ffX6_13 dX6_comes_72 (by decide) rfl rfl 1 rfl (fun hr24 => ?_)
    rw [hq2]
    refine z_iadd C dX6_comes_75 ?_
    refine z_callVv C (c_X6_newOne (zl X) μ (5 + vR v) (zIx 0 (tx (p + 1))) (tx (p + 2) - 48) (by omega) h1.1 h1.2) yyX6_newOne mlX6_171 (zRc_of (i := 31) C (by decide) rfl rfl) dX6_comes_76 rfl rfl (Nat.le_of_ble_eq_true rfl) (by decide) (fun m25 hp25 => ?_)
    refine z_aload_n C dX6_comes_79 0 rfl ?_
    refine z_dup C dX6_comes_80 ?_
    refine z_getI C ffX6_13 dX6_comes_81 (by decide) rfl rfl 1 rfl (fun hr26 => ?_)
    rw [show m25 31 1 = vR v by rw [hp25.2.2.2 31 (by omega) (by omega) (by omega)]; exact hq2]
    refine z_iconst C dX6_comes_84 ?_
    refine z_iadd C dX6_comes_85 ?_
    refine z_putI C ffX6_13 fp6_1 dX6_comes_86 (by decide) rfl rfl 1 rfl (by omega) ?_
    refine z_mem (fun m27 em27 => ?_)
    refine z_goto C dX6_comes_89 (tgt := 144) (by decide) ?_
    exact E dX6_comes_144 ⟨(by rw [hkd.2.1 (by omega)]; exact zQ_add hq ho (by omega) (by rw [hO]; exact hp25.1) (by rw [hO]; exact hp25.2.1) (by rw [hO]; exact hp25.2.2.1) (fun x hx => by rw [hp25.2.2.2 31 (by omega) (by omega) (by omega)]) (Or.inr ⟨rfl, em27⟩)), (fun a x e1 e2 => by rw [em27, zs_o _ _ (by omega), hp25.2.2.2 a (by omega) (by omega) (by omega)])⟩
set_option maxHeartbeats 4000000 in
theorem c_X6_comesAll (l : Launch) (μ : zM) (v : zVw) (hq : zQ μ v) (ho : vOK v) (tx : Int → Int) (n : Int) (hx : zQl μ tx n) (hb : (sTxt tx n n.toNat 0).1 = true) (hc : (sCar tx n n.toNat 0 v).1 = -9) : zMi l yX6_comesAll cX6_comesAll 4 (.int) 7 145 [.inr 31] μ (fun (r : Int) (m : zM) => (r = zSum (fun i => if tx i = 59 then 1 else 0) n.toNat ∧ 0 ≤ r ∧ r ≤ n) ∧ zQ m (sCar tx n n.toNat 0 v).2 ∧ ∀ a x, ¬ (a = 31 ∧ (x ≤ 4 ∨ (13 ≤ x ∧ x ≤ 17))) → ¬ (32 ≤ a ∧ a ≤ 34) → m a x = μ a x) := by
  refine zMi_of (own := RX6) (by decide +kernel) rfl (Nat.le_of_ble_eq_true rfl) ?_
  intro X hX C hrm E
  subst hX
  show zJ X 4 μ 0 [(0, .inr 31)] []
  obtain ⟨x1, x2, x3⟩ := id hx
  obtain ⟨hq1, hq2, hq3, hq4, hq5, hq6, hq7⟩ := id hq
  refine z_aload_n C dX6_comesAll_0 0 rfl ?_
  refine z_iconst C dX6_comesAll_1 ?_
  refine z_putI C ffX6_50 fp6_13 dX6_comesAll_2 (by decide) rfl rfl 13 rfl (by decide) ?_
  refine z_mem (fun m1 em1 => ?_)
  refine z_iconst C dX6_comesAll_5 ?_
  refine z_istore_n C dX6_comesAll_6 (by decide) (L' := [(0, _), (1, _)]) rfl ?_
  have LP7 : ∀ (N7 : Nat) (c : Int) (p : Int) (k : Int) (w : zVw) (ma : zM), (0 ≤ p ∧ p ≤ n) → (0 ≤ k ∧ k ≤ p) → (ma 31 13 = p) → (∀ a x, ¬ (a = 31 ∧ (x ≤ 4 ∨ (13 ≤ x ∧ x ≤ 17))) → ¬ (32 ≤ a ∧ a ≤ 34) → ma a x = μ a x) → ((sTxt tx n (n - k).toNat p).1 = true) → (sCar tx n n.toNat 0 v = sCar tx n (n - k).toNat p w) → (vOK w) → (zQ ma w) → (c = zSum (fun i => if tx i = 59 then 1 else 0) p.toNat) → (0 ≤ c ∧ c ≤ p) → (97 - p).toNat < N7 → zJ X 4 ma 7 [(0, .inr 31), (1, .inl c)] [] := by
    intro N7
    induction N7 with
    | zero => intro c p k w ma h7_0 h7_1 h7_2 h7_3 h7_4 h7_5 h7_6 h7_7 h7_8 h7_9 hN; exact absurd hN (Nat.not_lt_zero _)
    | succ N7 ih7 =>
      intro c p k w ma h7_0 h7_1 h7_2 h7_3 h7_4 h7_5 h7_6 h7_7 h7_8 h7_9 hN7
      refine z_aload_n C dX6_comesAll_7 0 rfl ?_
      refine z_getI C ffX6_50 dX6_comesAll_8 (by decide) rfl rfl 13 rfl (fun hr2 => ?_)
      rw [h7_2]
      refine z_aload_n C dX6_comesAll_11 0 rfl ?_
      refine z_getI C ffX6_25 dX6_comesAll_12 (by decide) rfl rfl 5 rfl (fun hr3 => ?_)
      rw [show ma 31 5 = n by rw [h7_3 31 5 (by omega) (by omega)]; exact x1]
      refine z_icmp_ge C dX6_comesAll_15 (tgt := 39) (by decide) (by omega) (by omega) (fun c4 => ?_) (fun c4 => ?_)
      · refine z_iload_n C dX6_comesAll_39 1 rfl ?_
        exact E dX6_comesAll_40 (by omega) rfl ⟨⟨(by rw [h7_8, show p = n by omega]), (by omega)⟩, (by rw [h7_5, sCar_end (by omega)]; exact h7_7), h7_3⟩
      · refine z_aload_n C dX6_comesAll_18 0 rfl ?_
        refine z_callVi C (c_X6_next (zl X) ma tx n (zQl_fr hx (h7_3 31 5 (by omega) (by omega)) (funext fun y => h7_3 35 y (by omega) (by omega))) p h7_2 (by omega)) yyX6_next mlX6_132 (zRc_of (i := 31) C (by decide) rfl rfl) dX6_comesAll_19 rfl rfl (Nat.le_of_ble_eq_true rfl) (by decide) (fun r5 m5 hr5 hp5 => ?_)
        obtain ⟨rfl, hp5⟩ := hp5
        have hrt : r5 = tx p := by omega
        subst hrt
        refine z_istore_n C dX6_comesAll_22 (by decide) (L' := [(0, _), (1, _), (2, _)]) rfl ?_
        refine z_aload_n C dX6_comesAll_23 0 rfl ?_
        refine z_callVi C (c_X6_takesStatement (zl X) ma tx n (zQl_fr hx (h7_3 31 5 (by omega) (by omega)) (funext fun y => h7_3 35 y (by omega) (by omega))) p h7_2 (by omega)) yyX6_takesStatement mlX6_161 (zRc_of (i := 31) C (by decide) rfl rfl) dX6_comesAll_24 rfl rfl (Nat.le_of_ble_eq_true rfl) (by decide) (fun r6 m6 hr6 hp6 => ?_)
        have hs1 : (sSta tx n p).1 = true := (sTxt_1 (by omega) (by omega) h7_4).1
        have hs2 := (sTxt_1 (by omega) (by omega) h7_4).2
        have hst := hp6.1
        have hfl : zFld m6 tx p := by
          rcases hst.1 with ⟨-, -, f⟩ | ⟨-, f⟩
          · exact f
          · rw [hs1] at f; cases f
        have hin := sSta_in (tx := tx) (n := n) (p := p) (by omega)
        have hlt := hin.2.2 hs1
        have hxp := (x3 p (by omega) (by omega)).2
        have hg : sGd tx p w := sCar_g (by omega) (by omega) (by omega) h7_5 hc
        have hcn := sSta_cnt (by omega) hs1
        have hq2_ : zQ m6 w := zQ_fr h7_7 (fun x x0 x1 => hp6.2 31 x (by omega)) (funext fun y => hp6.2 32 y (by omega)) (funext fun y => hp6.2 33 y (by omega)) (funext fun y => hp6.2 34 y (by omega))
        refine z_istore_n C dX6_comesAll_27 (by decide) (L' := [(0, _), (1, _), (2, _), (3, _)]) rfl ?_
        refine z_aload_n C dX6_comesAll_28 0 rfl ?_
        refine z_iload_n C dX6_comesAll_29 2 rfl ?_
        refine z_callVv C (c_X6_comes (zl X) m6 tx n p w hq2_ h7_6 hs1 hfl (sGdb_t hg)) yyX6_comes mlX6_175 (zRc_of (i := 31) C (by decide) rfl rfl) dX6_comesAll_30 rfl rfl (Nat.le_of_ble_eq_true rfl) (by decide) (fun m7 hp7 => ?_)
        refine z_iinc C dX6_comesAll_33 1 rfl (by decide) (L' := [(0, _), (1, _), (2, _), (3, _)]) rfl ?_
        refine z_goto C dX6_comesAll_36 (tgt := 7) (by decide) ?_
        refine z_sub [0, 1] rfl ?_; exact ih7 _ (sSta tx n p).2 (k + 1) (sDo tx p w) m7 (by omega) (by omega) (by rw [hp7.2 31 13 (by omega) (by omega)]; exact hst.2) (fun a x e1 e2 => by rw [hp7.2 a x (by omega) e2, hp6.2 a x (by omega)]; exact h7_3 a x e1 e2) hs2 (sCar_go (by omega) (by omega) h7_5 hg) (sDo_ok h7_6 hs1 hg) hp7.1 (by rw [hcn, h7_8]) (by omega) (by omega)
  exact LP7 _ _ 0 0 v m1 (by omega) (by omega) (by rw [em1, zs_self]) (fun a x e1 e2 => by rw [em1, zs_o _ _ (by omega)]) (by rw [Int.sub_zero]; exact hb) (by rw [Int.sub_zero]) ho (zQ_fr hq (fun x x0 x1 => by rw [em1, zs_o _ _ (by omega)]) (by rw [em1, zs_ne _ _ _ (by omega)]) (by rw [em1, zs_ne _ _ _ (by omega)]) (by rw [em1, zs_ne _ _ _ (by omega)])) rfl (by omega) (Nat.lt_succ_self _)
set_option maxHeartbeats 4000000 in
theorem c_X6_evening (l : Launch) (μ : zM) (s : zS) (hs : zRf μ s) (hso : sOK s) : zMi l yX6_evening cX6_evening 3 (.int) 8 169 [.inr 31] μ (fun (r : Int) (m : zM) => r = (tEvening s).1 ∧ zRf m (tEvening s).2 ∧ ∀ a, (a < 31 ∨ 48 ≤ a) → m a = μ a) := by
  refine zMi_of (own := RX6) (by decide +kernel) rfl (Nat.le_of_ble_eq_true rfl) ?_
  intro X hX C hrm E
  subst hX
  show zJ X 3 μ 0 [(0, .inr 31)] []
  obtain ⟨hq, hk, hi, hl, hm, hw, hf⟩ := id hs
  obtain ⟨ho, hok, hoi, hon, hot, hom, how⟩ := id hso
  generalize hgv : gV s = v at hq ho
  obtain ⟨hq1, hq2, hq3, hq4, hq5, hq6, hq7⟩ := id hq
  obtain ⟨ho1, ho2, ho3, ho4, ho5, ho6, ho7⟩ := id ho
  have hN := vN_ok ho
  refine z_aload_n C dX6_evening_0 0 rfl ?_
  refine z_callVi C (c_X6_isText (zl X) μ (gT s) (gN s) hl) yyX6_isText mlX6_178 (zRc_of (i := 31) C (by decide) rfl rfl) dX6_evening_1 rfl rfl (Nat.le_of_ble_eq_true rfl) (by decide) (fun r1 m1 hr1 hp1 => ?_)
  have hrb : r1 = 1 ∨ r1 = 0 := by omega
  refine z_if_eq C dX6_evening_4 (tgt := 11) (by decide) (by omega) (fun c2 => ?_) (fun c2 => ?_)
  · refine z_sipush C dX6_evening_11 (by decide) ?_
    refine z_aload_n C dX6_evening_14 0 rfl ?_
    refine z_getI C ffX6_50 dX6_evening_15 (by decide) rfl rfl 13 rfl (fun hr3 => ?_)
    refine z_isub C dX6_evening_18 ?_
    have hbd : sBad (gT s) (gN s) = m1 31 13 := by omega
    refine z_istore_n C dX6_evening_19 (by decide) (L' := [(0, _), (1, _)]) rfl ?_
    refine z_iload_n C dX6_evening_20 1 rfl ?_
    refine z_if_ne C dX6_evening_21 (tgt := 46) (by decide) (by omega) (fun _ => ?_) (fun c4 => (by exfalso; omega))
    refine z_aload_n C dX6_evening_46 0 rfl ?_
    refine z_iconst C dX6_evening_47 ?_
    refine z_putI C ffX6_25 fp6_5 dX6_evening_48 (by decide) rfl rfl 5 rfl (by decide) ?_
    refine z_mem (fun m5 em5 => ?_)
    refine z_iload_n C dX6_evening_51 1 rfl ?_
    exact E dX6_evening_52 (by omega) rfl (t_fin (P := zRf) (show tEvening s = ((-1000) - m1 31 13, pN s) by unfold tEvening; (first | rw [hgv] | skip); rw [if_neg (by omega), hbd]) (by rw [em5]; exact zRf_N (zRf_fr hs (fun a x e => hp1.2 a x (by omega)))) (fun a _ => funext fun x => by rw [em5, zs_o _ _ (by omega), hp1.2 a x (by omega)]))
  · refine z_iconst C dX6_evening_7 ?_
    refine z_goto C dX6_evening_8 (tgt := 19) (by decide) ?_
    skip
    refine z_istore_n C dX6_evening_19 (by decide) (L' := [(0, _), (1, _)]) rfl ?_
    refine z_iload_n C dX6_evening_20 1 rfl ?_
    refine z_if_ne C dX6_evening_21 (tgt := 46) (by decide) (by decide) (fun c6 => (by exfalso; omega)) (fun _ => ?_)
    refine z_aload_n C dX6_evening_24 0 rfl ?_
    refine z_callVi C (c_X6_wrongPlace (zl X) m1 v (zQ_fr hq (fun x x0 x1 => by rw [hp1.2 31 x (by omega)]) (funext fun y => by rw [hp1.2 32 y (by omega)]) (funext fun y => by rw [hp1.2 33 y (by omega)]) (funext fun y => by rw [hp1.2 34 y (by omega)])) ho (gT s) (gN s) (zQl_fr hl (by rw [hp1.2 31 5 (by omega)]) (funext fun y => by rw [hp1.2 35 y (by omega)])) (sBad_1 hon.1 (by omega)).2) yyX6_wrongPlace mlX6_181 (zRc_of (i := 31) C (by decide) rfl rfl) dX6_evening_25 rfl rfl (Nat.le_of_ble_eq_true rfl) (by decide) (fun r7 m7 hr7 hp7 => ?_)
    refine z_istore_n C dX6_evening_28 (by decide) (L' := [(0, _), (1, _), (2, _)]) rfl ?_
    have hEv : sEv s = sCar (gT s) (gN s) (gN s).toNat 0 v := by unfold sEv; rw [hgv]
    refine z_iload_n C dX6_evening_29 2 rfl ?_
    refine z_if_ge C dX6_evening_30 (tgt := 40) (by decide) (by omega) (fun c8 => ?_) (fun c8 => ?_)
    · have hE : (sEv s).1 = r7 := by rw [hEv]; omega
      refine z_sipush C dX6_evening_40 (by decide) ?_
      refine z_iload_n C dX6_evening_43 2 rfl ?_
      refine z_isub C dX6_evening_44 ?_
      refine z_istore_n C dX6_evening_45 (by decide) (L' := [(0, _), (1, _), (2, _)]) rfl ?_
      refine z_aload_n C dX6_evening_46 0 rfl ?_
      refine z_iconst C dX6_evening_47 ?_
      refine z_putI C ffX6_25 fp6_5 dX6_evening_48 (by decide) rfl rfl 5 rfl (by decide) ?_
      refine z_mem (fun m9 em9 => ?_)
      refine z_iload_n C dX6_evening_51 1 rfl ?_
      exact E dX6_evening_52 (by omega) rfl (t_fin (P := zRf) (show tEvening s = ((-2000) - r7, pN s) by unfold tEvening; (first | rw [hgv] | skip); rw [if_pos (by omega), if_neg (by rw [hE]; omega), hE]) (by rw [em9]; exact zRf_N (zRf_fr hs (fun a x e => by rw [hp7.2 a x (by omega), hp1.2 a x (by omega)]))) (fun a _ => funext fun x => by rw [em9, zs_o _ _ (by omega), hp7.2 a x (by omega), hp1.2 a x (by omega)]))
    · refine z_aload_n C dX6_evening_33 0 rfl ?_
      refine z_callVi C (c_X6_comesAll (zl X) m7 v (zQ_fr hq (fun x x0 x1 => by rw [hp7.2 31 x (by omega), hp1.2 31 x (by omega)]) (funext fun y => by rw [hp7.2 32 y (by omega), hp1.2 32 y (by omega)]) (funext fun y => by rw [hp7.2 33 y (by omega), hp1.2 33 y (by omega)]) (funext fun y => by rw [hp7.2 34 y (by omega), hp1.2 34 y (by omega)])) ho (gT s) (gN s) (zQl_fr hl (by rw [hp7.2 31 5 (by omega), hp1.2 31 5 (by omega)]) (funext fun y => by rw [hp7.2 35 y (by omega), hp1.2 35 y (by omega)])) (sBad_1 hon.1 (by omega)).2 (by omega)) yyX6_comesAll mlX6_184 (zRc_of (i := 31) C (by decide) rfl rfl) dX6_evening_34 rfl rfl (Nat.le_of_ble_eq_true rfl) (by decide) (fun r10 m10 hr10 hp10 => ?_)
      rw [hp10.1.1]
      have hcb := hp10.1
      rw [hcb.1] at hcb
      refine z_goto C dX6_evening_37 (tgt := 45) (by decide) ?_
      refine z_istore_n C dX6_evening_45 (by decide) (L' := [(0, _), (1, _), (2, _)]) rfl ?_
      refine z_aload_n C dX6_evening_46 0 rfl ?_
      refine z_iconst C dX6_evening_47 ?_
      refine z_putI C ffX6_25 fp6_5 dX6_evening_48 (by decide) rfl rfl 5 rfl (by decide) ?_
      refine z_mem (fun m11 em11 => ?_)
      refine z_iload_n C dX6_evening_51 1 rfl ?_
      exact E dX6_evening_52 (by omega) rfl (t_fin (P := zRf) (show tEvening s = (zSum (fun i => if gT s i = 59 then 1 else 0) (gN s).toNat, pV (pN s) (sEv s).2) by unfold tEvening; (first | rw [hgv] | skip); rw [if_pos (by omega), if_pos (by rw [hEv]; omega)]; rfl) (by rw [em11, hEv]; exact zRf_N (zRf_V hs hp10.2.1 (fun a x e => by rw [hp10.2.2 a x (by omega) (by omega), hp7.2 a x (by omega), hp1.2 a x (by omega)]))) (fun a _ => funext fun x => by rw [em11, zs_o _ _ (by omega), hp10.2.2 a x (by omega) (by omega), hp7.2 a x (by omega), hp1.2 a x (by omega)]))
