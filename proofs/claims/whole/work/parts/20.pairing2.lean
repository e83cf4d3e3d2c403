/-! contracts: Pairing, pairs -/
def sGr (v : zVw) (g : Int → Int) (l : Int) : Int → Int := fun r => if ¬ zand (g l) (zbit (5 + r)) = 0 then vA v l (5 + r) + vA v (5 + r) l else 0
def sGl (v : zVw) (g : Int → Int) : Int → Int := fun l => zSum (sGr v g l) 5
def sGlad (v : zVw) (g : Int → Int) : Int := zSum (sGl v g) 5
theorem sGr_b {v : zVw} (ho : vOK v) (g : Int → Int) (l : Int) (n : Nat) (hl : 0 ≤ l ∧ l < 5) (hn : n ≤ 5) : 0 ≤ zSum (sGr v g l) n ∧ zSum (sGr v g l) n ≤ 90 := by
  have := zSum_b (f := sGr v g l) (c := 18) n (fun r r0 r1 => by
    unfold sGr
    have h1 := ho.2.2.2.2.2.2 l (5 + r) (by omega)
    have h2 := ho.2.2.2.2.2.2 (5 + r) l (by omega)
    split <;> omega)
  omega
theorem sGl_b {v : zVw} (ho : vOK v) (g : Int → Int) (n : Nat) (hn : n ≤ 5) : 0 ≤ zSum (sGl v g) n ∧ zSum (sGl v g) n ≤ 450 := by
  have := zSum_b (f := sGl v g) (c := 90) n (fun l l0 l1 => sGr_b ho g l 5 (by omega) (by omega))
  omega
set_option maxHeartbeats 4000000 in
theorem c_X1_validYeses (l : Launch) (μ : zM) (t : Nat) (ht : zTo t) (v : zVw) (hv : zT μ t v) (ho : vOK v) (p s lw g : Int) (hp : 0 ≤ p ∧ p < 10) (hs : 0 ≤ s ∧ s < 32) (hlw : 0 ≤ lw ∧ lw ≤ 3) (hg : lw = 3 → μ 24 p = g ∧ (g = -9 ∨ zU p g)) : zMi l yX1_validYeses cX1_validYeses 5 (.int) 3 74 [.inr 22, .inr t, .inl p, .inl s, .inl lw] μ (fun (r : Int) (m : zM) => μ = m ∧ r = sVal v p s lw g) := by
  refine zMi_of (own := RX1) (by decide +kernel) rfl (Nat.le_of_ble_eq_true rfl) ?_
  intro X hX C hrm E
  subst hX
  show zJ X 5 μ 0 [(0, .inr 22), (1, .inr t), (2, .inl p), (3, .inl s), (4, .inl lw)] []
  obtain ⟨hv1, hv2, hv3, hv4, hv5, hv6, hv7⟩ := id hv
  obtain ⟨ho1, ho2, ho3, ho4, ho5, ho6, ho7⟩ := id ho
  have hvb := sVal_b v (g := g) hp hs (fun q => (hg q).2)
  refine z_iload C dX1_validYeses_0 4 rfl ?_
  by_cases e1_0 : lw = 1
  · refine z_tabIn C dX1_validYeses_2 (by omega) 0 (by omega) (by omega) (off := 26) (tgt := 28) rfl (by decide) ?_
    refine z_aload_n C dX1_validYeses_28 1 rfl ?_
    refine z_iload_n C dX1_validYeses_29 2 rfl ?_
    refine z_iload_n C dX1_validYeses_30 3 rfl ?_
    refine z_iconst C dX1_validYeses_31 ?_
    refine z_callSi C (c_X1_likedMost (zl X) μ t ht v hv ho p s 3 hp hs (by omega)) yyX1_likedMost mlX1_41 dX1_validYeses_32 rfl rfl (Nat.le_of_ble_eq_true rfl) (by decide) (fun r2 m2 hr2 hp2 => ?_)
    obtain ⟨rfl, hp2⟩ := hp2
    rw [hp2]
    have hlb := sLkN_b v s hp 3
    exact E dX1_validYeses_35 (by omega) rfl ⟨rfl, (by unfold sVal; simp [*])⟩
  by_cases e1_1 : lw = 2
  · refine z_tabIn C dX1_validYeses_2 (by omega) 1 (by omega) (by omega) (off := 34) (tgt := 36) rfl (by decide) ?_
    refine z_aload_n C dX1_validYeses_36 1 rfl ?_
    refine z_iload_n C dX1_validYeses_37 2 rfl ?_
    refine z_iload_n C dX1_validYeses_38 3 rfl ?_
    refine z_iconst C dX1_validYeses_39 ?_
    refine z_callSi C (c_X1_likedMost (zl X) μ t ht v hv ho p s 1 hp hs (by omega)) yyX1_likedMost mlX1_41 dX1_validYeses_40 rfl rfl (Nat.le_of_ble_eq_true rfl) (by decide) (fun r3 m3 hr3 hp3 => ?_)
    obtain ⟨rfl, hp3⟩ := hp3
    rw [hp3]
    have hlb := sLkN_b v s hp 1
    exact E dX1_validYeses_43 (by omega) rfl ⟨rfl, (by unfold sVal; simp [*])⟩
  by_cases e1_2 : lw = 3
  · refine z_tabIn C dX1_validYeses_2 (by omega) 2 (by omega) (by omega) (off := 42) (tgt := 44) rfl (by decide) ?_
    refine z_aload_n C dX1_validYeses_44 0 rfl ?_
    refine z_getR C ffX1_15 dX1_validYeses_45 (by decide) rfl rfl ?_
    refine z_iload_n C dX1_validYeses_48 2 rfl ?_
    refine z_iald C dX1_validYeses_49 (by decide) rfl (by omega) (by decide) (fun hr4 => ?_)
    rw [(hg (by omega)).1]
    have hgb := (hg (by omega)).2
    refine z_bipush C dX1_validYeses_50 (by decide) ?_
    refine z_icmp_ne C dX1_validYeses_52 (tgt := 59) (by decide) (by omega) (by decide) (fun c5 => ?_) (fun c5 => ?_)
    · refine z_iload_n C dX1_validYeses_59 3 rfl ?_
      refine z_aload_n C dX1_validYeses_60 0 rfl ?_
      refine z_getR C ffX1_15 dX1_validYeses_61 (by decide) rfl rfl ?_
      refine z_iload_n C dX1_validYeses_64 2 rfl ?_
      refine z_iald C dX1_validYeses_65 (by decide) rfl (by omega) (by decide) (fun hr6 => ?_)
      rw [(hg (by omega)).1]
      refine z_callNi C (c_X5_bitOf (zl X) μ g (by omega)) yyX5_bitOf (by decide +kernel) dX1_validYeses_66 rfl rfl (Nat.le_of_ble_eq_true rfl) (by decide) (fun r7 m7 hr7 hp7 => ?_)
      obtain ⟨rfl, hp7⟩ := hp7
      rw [hp7]
      have hzb := zand_b s hs.1 hs.2 g (by omega) (by omega)
      refine z_iand C dX1_validYeses_69 ?_
      exact E dX1_validYeses_70 (by omega) rfl ⟨rfl, (by unfold sVal; simp [*])⟩
    · refine z_iconst C dX1_validYeses_55 ?_
      refine z_goto C dX1_validYeses_56 (tgt := 70) (by decide) ?_
      exact E dX1_validYeses_70 (by decide) rfl ⟨rfl, (by unfold sVal; simp [*])⟩
  refine z_tabOut C dX1_validYeses_2 (by omega) (by omega) (tgt := 71) (by decide) ?_
  refine z_iload_n C dX1_validYeses_71 3 rfl ?_
  exact E dX1_validYeses_72 (by omega) rfl ⟨rfl, (by unfold sVal; simp [*])⟩
set_option maxHeartbeats 4000000 in
theorem c_X1_settle (l : Launch) (μ : zM) (t : Nat) (ht : zTo t) (v : zVw) (hv : zT μ t v) (ho : vOK v) (hh : zH μ v) (lw : Int) (hlw : 0 ≤ lw ∧ lw ≤ 3) : zMv l yX1_settle cX1_settle 7 4 98 [.inr 22, .inr t, .inr 18, .inl lw] μ (fun (m : zM) => (∀ p, 0 ≤ p → p < 10 → m 23 p = sPb (sVl v lw) p) ∧ ∀ x, (x < 23 ∨ 26 < x) → m x = μ x) := by
  refine zMv_of (own := RX1) (by decide +kernel) rfl (Nat.le_of_ble_eq_true rfl) ?_
  intro X hX C hrm E
  subst hX
  show zJ X 7 μ 0 [(0, .inr 22), (1, .inr t), (2, .inr 18), (3, .inl lw)] []
  obtain ⟨hv1, hv2, hv3, hv4, hv5, hv6, hv7⟩ := id hv
  obtain ⟨ho1, ho2, ho3, ho4, ho5, ho6, ho7⟩ := id ho
  obtain ⟨hh1, hh2, hh3, hh4⟩ := id hh
  obtain ⟨n1, n2, n3, n4⟩ := vN_ok ho
  have JP11 : ∀ (mj : zM), (∀ x, x ≠ 24 → x ≠ 26 → mj x = μ x) → (lw = 3 → ∀ p, 0 ≤ p → p < 10 → mj 24 p = (sIt v (sIn v 0) 25).1 p) →  zJ X 7 mj 11 [(0, .inr 22), (1, .inr t), (2, .inr 18), (3, .inl lw)] [] := by
    intro mj j11_0 j11_1
    refine z_iconst C dX1_settle_11 ?_
    refine z_istore C dX1_settle_12 (by decide) (L' := [(0, _), (1, _), (2, _), (3, _), (4, _)]) rfl ?_
    have LP14 : ∀ (N14 : Nat) (i : Int) (ma : zM), (0 ≤ i) → (i ≤ 10) → (∀ x, x ≠ 23 → x ≠ 25 → ma x = mj x) → (∀ p, 0 ≤ p → p < i → ma 23 p = 0) → (∀ p, 0 ≤ p → p < i → ma 25 p = sVl v lw p) → (10 - i).toNat < N14 → zJ X 7 ma 14 [(0, .inr 22), (1, .inr t), (2, .inr 18), (3, .inl lw), (4, .inl i)] [] := by
      intro N14
      induction N14 with
      | zero => intro i ma h14_0 h14_1 h14_2 h14_3 h14_4 hN; exact absurd hN (Nat.not_lt_zero _)
      | succ N14 ih14 =>
        intro i ma h14_0 h14_1 h14_2 h14_3 h14_4 hN14
        refine z_iload C dX1_settle_14 4 rfl ?_
        refine z_bipush C dX1_settle_16 (by decide) ?_
        refine z_icmp_ge C dX1_settle_18 (tgt := 57) (by decide) (by omega) (by decide) (fun c1 => ?_) (fun c1 => ?_)
        · refine z_iconst C dX1_settle_57 ?_
          refine z_istore C dX1_settle_58 (by decide) (L' := [(0, _), (1, _), (2, _), (3, _), (4, _)]) rfl ?_
          have LP60 : ∀ (N60 : Nat) (a : Int) (mb : zM), (0 ≤ a) → (a ≤ 5) → (zPq ma mb (sVl v lw) a 0) → (5 - a).toNat < N60 → zJ X 7 mb 60 [(0, .inr 22), (1, .inr t), (2, .inr 18), (3, .inl lw), (4, .inl a)] [] := by
            intro N60
            induction N60 with
            | zero => intro a mb h60_0 h60_1 h60_2 hN; exact absurd hN (Nat.not_lt_zero _)
            | succ N60 ih60 =>
              intro a mb h60_0 h60_1 h60_2 hN60
              refine z_iload C dX1_settle_60 4 rfl ?_
              refine z_iconst C dX1_settle_62 ?_
              refine z_icmp_ge C dX1_settle_63 (tgt := 155) (by decide) (by omega) (by decide) (fun c2 => ?_) (fun c2 => ?_)
              · exact E dX1_settle_155 ⟨zPq_end h60_2 (by omega), (fun x hx => by rw [h60_2.1 x (by omega), h14_2 x (by omega) (by omega)]; exact j11_0 x (by omega) (by omega))⟩
              · refine z_iconst C dX1_settle_66 ?_
                refine z_istore C dX1_settle_67 (by decide) (L' := [(0, _), (1, _), (2, _), (3, _), (4, _), (5, _)]) rfl ?_
                have LP69 : ∀ (N69 : Nat) (b : Int) (mc : zM), (0 ≤ b) → (b ≤ 5) → (zPq ma mc (sVl v lw) a b) → (5 - b).toNat < N69 → zJ X 7 mc 69 [(0, .inr 22), (1, .inr t), (2, .inr 18), (3, .inl lw), (4, .inl a), (5, .inl b)] [] := by
                  intro N69
                  induction N69 with
                  | zero => intro b mc h69_0 h69_1 h69_2 hN; exact absurd hN (Nat.not_lt_zero _)
                  | succ N69 ih69 =>
                    intro b mc h69_0 h69_1 h69_2 hN69
                    refine z_iload C dX1_settle_69 5 rfl ?_
                    refine z_iconst C dX1_settle_71 ?_
                    refine z_icmp_ge C dX1_settle_72 (tgt := 149) (by decide) (by omega) (by decide) (fun c3 => ?_) (fun c3 => ?_)
                    · refine z_iinc C dX1_settle_149 4 rfl (by decide) (L' := [(0, _), (1, _), (2, _), (3, _), (4, _), (5, _)]) rfl ?_
                      refine z_goto C dX1_settle_152 (tgt := 60) (by decide) ?_
                      refine z_sub [0, 1, 2, 3, 4] rfl ?_; exact ih60 _ mc (by omega) (by omega) (zPq_next h69_2 (by omega) (by omega)) (by omega)
                    · refine z_iconst C dX1_settle_75 ?_
                      refine z_iload C dX1_settle_76 5 rfl ?_
                      refine z_iadd C dX1_settle_78 ?_
                      refine z_istore C dX1_settle_79 (by decide) (L' := [(0, _), (1, _), (2, _), (3, _), (4, _), (5, _), (6, _)]) rfl ?_
                      refine z_aload_n C dX1_settle_81 0 rfl ?_
                      refine z_getR C ffX1_18 dX1_settle_82 (by decide) rfl rfl ?_
                      refine z_iload C dX1_settle_85 4 rfl ?_
                      refine z_iald C dX1_settle_87 (by decide) rfl (by omega) (by decide) (fun hr4 => ?_)
                      have hva : mc 25 a = sVl v lw a := by rw [h69_2.1 25 (by omega)]; exact h14_4 a (by omega) (by omega)
                      rw [hva]
                      have hab := sVl_b ho lw (p := a) (by omega)
                      refine z_iload C dX1_settle_88 6 rfl ?_
                      refine z_callNi C (c_X5_bitOf (zl X) mc (5 + b) (by omega)) yyX5_bitOf (by decide +kernel) dX1_settle_90 rfl rfl (Nat.le_of_ble_eq_true rfl) (by decide) (fun r5 m5 hr5 hp5 => ?_)
                      obtain ⟨rfl, hp5⟩ := hp5
                      rw [hp5]
                      have hz1 := zand_b _ hab.1 hab.2 (5 + b) (by omega) (by omega)
                      refine z_iand C dX1_settle_93 ?_
                      refine z_if_eq C dX1_settle_94 (tgt := 143) (by decide) (by omega) (fun c6 => ?_) (fun c6 => ?_)
                      · refine z_iinc C dX1_settle_143 5 rfl (by decide) (L' := [(0, _), (1, _), (2, _), (3, _), (4, _), (5, _), (6, _)]) rfl ?_
                        refine z_goto C dX1_settle_146 (tgt := 69) (by decide) ?_
                        refine z_sub [0, 1, 2, 3, 4, 5] rfl ?_; exact ih69 _ mc (by omega) (by omega) (zPq_no h69_2 (by omega) (by omega) (by omega)) (by omega)
                      · refine z_aload_n C dX1_settle_97 0 rfl ?_
                        refine z_getR C ffX1_18 dX1_settle_98 (by decide) rfl rfl ?_
                        refine z_iload C dX1_settle_101 6 rfl ?_
                        refine z_iald C dX1_settle_103 (by decide) rfl (by omega) (by decide) (fun hr7 => ?_)
                        have hvb : mc 25 (5 + b) = sVl v lw (5 + b) := by rw [h69_2.1 25 (by omega)]; exact h14_4 (5 + b) (by omega) (by omega)
                        rw [hvb]
                        have hbb := sVl_b ho lw (p := 5 + b) (by omega)
                        refine z_iload C dX1_settle_104 4 rfl ?_
                        refine z_callNi C (c_X5_bitOf (zl X) mc a (by omega)) yyX5_bitOf (by decide +kernel) dX1_settle_106 rfl rfl (Nat.le_of_ble_eq_true rfl) (by decide) (fun r8 m8 hr8 hp8 => ?_)
                        obtain ⟨rfl, hp8⟩ := hp8
                        rw [hp8]
                        have hz2 := zand_b _ hbb.1 hbb.2 a (by omega) (by omega)
                        refine z_iand C dX1_settle_109 ?_
                        refine z_if_eq C dX1_settle_110 (tgt := 143) (by decide) (by omega) (fun c9 => ?_) (fun c9 => ?_)
                        · refine z_iinc C dX1_settle_143 5 rfl (by decide) (L' := [(0, _), (1, _), (2, _), (3, _), (4, _), (5, _), (6, _)]) rfl ?_
                          refine z_goto C dX1_settle_146 (tgt := 69) (by decide) ?_
                          refine z_sub [0, 1, 2, 3, 4, 5] rfl ?_; exact ih69 _ mc (by omega) (by omega) (zPq_no h69_2 (by omega) (by omega) (by omega)) (by omega)
                        · refine z_aload_n C dX1_settle_113 0 rfl ?_
                          refine z_getR C ffX1_9 dX1_settle_114 (by decide) rfl rfl ?_
                          refine z_iload C dX1_settle_117 4 rfl ?_
                          refine z_dup2 C dX1_settle_119 ?_
                          refine z_iald C dX1_settle_120 (by decide) rfl (by omega) (by decide) (fun hr10 => ?_)
                          have hp1 : mc 23 a = sPbN (sVl v lw) a b.toNat := by rw [h69_2.2.1 a (by omega) (by omega), if_neg (by omega), if_pos rfl]
                          rw [hp1]
                          have hb1 := sPbN_b (sVl v lw) a b.toNat (by omega)
                          have hb3 := zor_bit _ hb1.1 hb1.2 (5 + b) (by omega) (by omega)
                          refine z_iload C dX1_settle_121 6 rfl ?_
                          refine z_callNi C (c_X5_bitOf (zl X) mc (5 + b) (by omega)) yyX5_bitOf (by decide +kernel) dX1_settle_123 rfl rfl (Nat.le_of_ble_eq_true rfl) (by decide) (fun r11 m11 hr11 hp11 => ?_)
                          obtain ⟨rfl, hp11⟩ := hp11
                          rw [hp11]
                          refine z_ior C dX1_settle_126 ?_
                          refine z_iast C dX1_settle_127 (by decide) rfl (by omega) (by decide) (by omega) ?_
                          refine z_mem (fun m12 em12 => ?_)
                          refine z_aload_n C dX1_settle_128 0 rfl ?_
                          refine z_getR C ffX1_9 dX1_settle_129 (by decide) rfl rfl ?_
                          refine z_iload C dX1_settle_132 6 rfl ?_
                          refine z_dup2 C dX1_settle_134 ?_
                          refine z_iald C dX1_settle_135 (by decide) rfl (by omega) (by decide) (fun hr13 => ?_)
                          have hp2 : m12 23 (5 + b) = sPbN (sVl v lw) (5 + b) a.toNat := by rw [em12, zs_o _ _ (by omega), h69_2.2.2 b (by omega) (by omega), if_neg (by omega)]
                          rw [hp2]
                          have hb2 := sPbN_b (sVl v lw) (5 + b) a.toNat (by omega)
                          have hb4 := zor_bit _ hb2.1 hb2.2 a (by omega) (by omega)
                          refine z_iload C dX1_settle_136 4 rfl ?_
                          refine z_callNi C (c_X5_bitOf (zl X) m12 a (by omega)) yyX5_bitOf (by decide +kernel) dX1_settle_138 rfl rfl (Nat.le_of_ble_eq_true rfl) (by decide) (fun r14 m14 hr14 hp14 => ?_)
                          obtain ⟨rfl, hp14⟩ := hp14
                          rw [hp14]
                          refine z_ior C dX1_settle_141 ?_
                          refine z_iast C dX1_settle_142 (by decide) rfl (by omega) (by decide) (by omega) ?_
                          refine z_mem (fun m15 em15 => ?_)
                          refine z_iinc C dX1_settle_143 5 rfl (by decide) (L' := [(0, _), (1, _), (2, _), (3, _), (4, _), (5, _), (6, _)]) rfl ?_
                          refine z_goto C dX1_settle_146 (tgt := 69) (by decide) ?_
                          refine z_sub [0, 1, 2, 3, 4, 5] rfl ?_; exact ih69 _ m15 (by omega) (by omega) (zPq_yes h69_2 (by omega) (by omega) (by omega) em12 em15) (by omega)
                exact LP69 _ 0 mb (by omega) (by omega) h60_2 (Nat.lt_succ_self _)
          exact LP60 _ 0 ma (by omega) (by omega) (zPq_0 (fun _ _ => rfl) (fun p p0 p1 => h14_3 p p0 (by omega))) (Nat.lt_succ_self _)
        · refine z_aload_n C dX1_settle_21 0 rfl ?_
          refine z_getR C ffX1_9 dX1_settle_22 (by decide) rfl rfl ?_
          refine z_iload C dX1_settle_25 4 rfl ?_
          refine z_iconst C dX1_settle_27 ?_
          refine z_iast C dX1_settle_28 (by decide) rfl (by omega) (by decide) (by decide) ?_
          refine z_mem (fun m16 em16 => ?_)
          refine z_aload_n C dX1_settle_29 0 rfl ?_
          refine z_getR C ffX1_18 dX1_settle_30 (by decide) rfl rfl ?_
          refine z_iload C dX1_settle_33 4 rfl ?_
          refine z_aload_n C dX1_settle_35 0 rfl ?_
          refine z_aload_n C dX1_settle_36 1 rfl ?_
          refine z_iload C dX1_settle_37 4 rfl ?_
          refine z_aload_n C dX1_settle_39 2 rfl ?_
          refine z_getR C ffX1_28 dX1_settle_40 (by decide) rfl rfl ?_
          refine z_iload C dX1_settle_43 4 rfl ?_
          refine z_iald C dX1_settle_45 (by decide) rfl (by omega) (by decide) (fun hr17 => ?_)
          have hsl : m16 21 i = sSl v i := by rw [em16, zs_o _ _ (by omega), h14_2 21 (by omega) (by omega), j11_0 21 (by omega) (by omega)]; exact hh3 i (by omega) (by omega)
          rw [hsl]
          have hsb := sSlN_b ho i 5
          have hib := (sIt_b (v := v) (sIn_b ho 0) 25 i (by omega) (by omega)).1
          refine z_iload_n C dX1_settle_46 3 rfl ?_
          refine z_callVi C (c_X1_validYeses (zl X) m16 t ht v (zT_fr hv (fun x x0 x1 => by rw [em16, zs_ne _ _ _ (by omega), h14_2 x (by omega) (by omega)]; exact j11_0 x (by omega) (by omega))) ho i (sSl v i) lw ((sIt v (sIn v 0) 25).1 i) (by omega) hsb hlw (fun q => ⟨(by rw [em16, zs_o _ _ (by omega), h14_2 24 (by omega) (by omega)]; exact j11_1 q i (by omega) (by omega)), hib⟩)) yyX1_validYeses mlX1_33 (zRc_of (i := 22) C (by decide) rfl rfl) dX1_settle_47 rfl rfl (Nat.le_of_ble_eq_true rfl) (by decide) (fun r18 m18 hr18 hp18 => ?_)
          obtain ⟨rfl, hp18⟩ := hp18
          rw [hp18]
          have hvb := sVl_b ho lw (p := i) (by omega)
          show zJ X 7 m16 50 _ (.inl (sVl v lw i) :: _)
          refine z_iast C dX1_settle_50 (by decide) rfl (by omega) (by decide) (by omega) ?_
          refine z_mem (fun m19 em19 => ?_)
          refine z_iinc C dX1_settle_51 4 rfl (by decide) (L' := [(0, _), (1, _), (2, _), (3, _), (4, _)]) rfl ?_
          refine z_goto C dX1_settle_54 (tgt := 14) (by decide) ?_
          exact ih14 _ m19 (by omega) (by omega) (fun x x1 x2 => by rw [em19, zs_ne _ _ _ (by omega), em16, zs_ne _ _ _ (by omega)]; exact h14_2 x x1 x2) (fun p p0 p1 => by rw [em19, zs_o _ _ (by omega), em16]; exact zs_upto h14_3 rfl p p0 p1) (fun p p0 p1 => by rw [em19]; exact zs_upto (m := m16) (fun p p0 p1 => by rw [em16, zs_o _ _ (by omega)]; exact h14_4 p p0 p1) rfl p p0 p1) (by omega)
    exact LP14 _ 0 mj (by omega) (by omega) (fun _ _ _ => rfl) (fun p p0 p1 => by omega) (fun p p0 p1 => by omega) (Nat.lt_succ_self _)
  refine z_iload_n C dX1_settle_0 3 rfl ?_
  refine z_iconst C dX1_settle_1 ?_
  refine z_icmp_ne C dX1_settle_2 (tgt := 11) (by decide) (by omega) (by decide) (fun c20 => ?_) (fun c20 => ?_)
  · exact JP11 μ (fun _ _ _ => rfl) (fun h => by omega)
  · refine z_aload_n C dX1_settle_5 0 rfl ?_
    refine z_aload_n C dX1_settle_6 1 rfl ?_
    refine z_iconst C dX1_settle_7 ?_
    refine z_callVv C (c_X1_askInTurn (zl X) μ t ht v hv ho 0 (Or.inl rfl)) yyX1_askInTurn mlX1_24 (zRc_of (i := 22) C (by decide) rfl rfl) dX1_settle_8 rfl rfl (Nat.le_of_ble_eq_true rfl) (by decide) (fun m21 hp21 => ?_)
    exact JP11 m21 hp21.2 (fun _ p p0 p1 => (hp21.1 p p0 p1).1)
set_option maxHeartbeats 4000000 in
theorem c_X1_howMany (l : Launch) (μ : zM) (g : Int → Int) (hg : ∀ p, 0 ≤ p → p < 5 → μ 23 p = g p ∧ (0 ≤ g p ∧ g p < 32)) : zMi l yX1_howMany cX1_howMany 3 (.int) 1 20 [.inr 22] μ (fun (r : Int) (m : zM) => μ = m ∧ r = zSum (fun p => sPop (g p)) 5) := by
  refine zMi_of (own := RX1) (by decide +kernel) rfl (Nat.le_of_ble_eq_true rfl) ?_
  intro X hX C hrm E
  subst hX
  show zJ X 3 μ 0 [(0, .inr 22)] []
  have hsb : ∀ i : Int, 0 ≤ i → i ≤ 5 → 0 ≤ zSum (fun p => sPop (g p)) i.toNat ∧ zSum (fun p => sPop (g p)) i.toNat ≤ 25 := fun i i0 i1 => by
    have := zSum_b (f := fun p => sPop (g p)) (c := 5) i.toNat (fun k k0 k1 => sPop_b (hg k k0 (by omega)).2.1)
    omega
  refine z_iconst C dX1_howMany_0 ?_
  refine z_istore_n C dX1_howMany_1 (by decide) (L' := [(0, _), (1, _)]) rfl ?_
  refine z_iconst C dX1_howMany_2 ?_
  refine z_istore_n C dX1_howMany_3 (by decide) (L' := [(0, _), (1, _), (2, _)]) rfl ?_
  have LP4 : ∀ (N4 : Nat) (n : Int) (i : Int), (0 ≤ i) → (i ≤ 5) → (n = zSum (fun p => sPop (g p)) i.toNat) → (5 - i).toNat < N4 → zJ X 3 μ 4 [(0, .inr 22), (1, .inl n), (2, .inl i)] [] := by
    intro N4
    induction N4 with
    | zero => intro n i h4_0 h4_1 h4_2 hN; exact absurd hN (Nat.not_lt_zero _)
    | succ N4 ih4 =>
      intro n i h4_0 h4_1 h4_2 hN4
      have hb := hsb i h4_0 h4_1
      refine z_iload_n C dX1_howMany_4 2 rfl ?_
      refine z_iconst C dX1_howMany_5 ?_
      refine z_icmp_ge C dX1_howMany_6 (tgt := 27) (by decide) (by omega) (by decide) (fun c1 => ?_) (fun c1 => ?_)
      · have e5 : i.toNat = 5 := by omega
        rw [e5] at h4_2 hb
        refine z_iload_n C dX1_howMany_27 1 rfl ?_
        exact E dX1_howMany_28 (by omega) rfl ⟨rfl, h4_2⟩
      · refine z_iload_n C dX1_howMany_9 1 rfl ?_
        refine z_aload_n C dX1_howMany_10 0 rfl ?_
        refine z_getR C ffX1_9 dX1_howMany_11 (by decide) rfl rfl ?_
        refine z_iload_n C dX1_howMany_14 2 rfl ?_
        refine z_iald C dX1_howMany_15 (by decide) rfl (by omega) (by decide) (fun hr2 => ?_)
        rw [(hg i (by omega) (by omega)).1]
        have hgb := (hg i (by omega) (by omega)).2
        refine z_callSi C (c_J6_bitCount_0f7a4 (zl X) μ (g i) (by omega)) yyJ6_bitCount_0f7a4 mlX1_44 dX1_howMany_16 rfl rfl (Nat.le_of_ble_eq_true rfl) (by decide) (fun r3 m3 hr3 hp3 => ?_)
        obtain ⟨rfl, hp3⟩ := hp3
        rw [hp3]
        refine z_iadd C dX1_howMany_19 ?_
        refine z_istore_n C dX1_howMany_20 (by decide) (L' := [(0, _), (1, _), (2, _)]) rfl ?_
        refine z_iinc C dX1_howMany_21 2 rfl (by decide) (L' := [(0, _), (1, _), (2, _)]) rfl ?_
        refine z_goto C dX1_howMany_24 (tgt := 4) (by decide) ?_
        exact ih4 _ _ (by omega) (by omega) (by rw [zSum_s _ (by omega), ← h4_2]) (by omega)
  exact LP4 _ 0 0 (by omega) (by omega) rfl (Nat.lt_succ_self _)
set_option maxHeartbeats 4000000 in
theorem c_X1_gladness (l : Launch) (μ : zM) (t : Nat) (ht : zTo t) (v : zVw) (hv : zT μ t v) (ho : vOK v) (g : Int → Int) (hg : ∀ p, 0 ≤ p → p < 5 → μ 23 p = g p ∧ (0 ≤ g p ∧ g p < 32)) : zMi l yX1_gladness cX1_gladness 5 (.int) 1 22 [.inr 22, .inr t] μ (fun (r : Int) (m : zM) => μ = m ∧ r = sGlad v g) := by
  refine zMi_of (own := RX1) (by decide +kernel) rfl (Nat.le_of_ble_eq_true rfl) ?_
  intro X hX C hrm E
  subst hX
  show zJ X 5 μ 0 [(0, .inr 22), (1, .inr t)] []
  obtain ⟨hv1, hv2, hv3, hv4, hv5, hv6, hv7⟩ := id hv
  obtain ⟨ho1, ho2, ho3, ho4, ho5, ho6, ho7⟩ := id ho
  refine z_iconst C dX1_gladness_0 ?_
  refine z_istore_n C dX1_gladness_1 (by decide) (L' := [(0, _), (1, _), (2, _)]) rfl ?_
  refine z_iconst C dX1_gladness_2 ?_
  refine z_istore_n C dX1_gladness_3 (by decide) (L' := [(0, _), (1, _), (2, _), (3, _)]) rfl ?_
  have LP4 : ∀ (N4 : Nat) (n : Int) (a : Int), (0 ≤ a) → (a ≤ 5) → (n = zSum (sGl v g) a.toNat) → (5 - a).toNat < N4 → zJ X 5 μ 4 [(0, .inr 22), (1, .inr t), (2, .inl n), (3, .inl a)] [] := by
    intro N4
    induction N4 with
    | zero => intro n a h4_0 h4_1 h4_2 hN; exact absurd hN (Nat.not_lt_zero _)
    | succ N4 ih4 =>
      intro n a h4_0 h4_1 h4_2 hN4
      have hb := sGl_b ho g a.toNat (by omega)
      refine z_iload_n C dX1_gladness_4 3 rfl ?_
      refine z_iconst C dX1_gladness_5 ?_
      refine z_icmp_ge C dX1_gladness_6 (tgt := 64) (by decide) (by omega) (by decide) (fun c1 => ?_) (fun c1 => ?_)
      · have e5 : a.toNat = 5 := by omega
        rw [e5] at h4_2 hb
        refine z_iload_n C dX1_gladness_64 2 rfl ?_
        exact E dX1_gladness_65 (by omega) rfl ⟨rfl, h4_2⟩
      · refine z_iconst C dX1_gladness_9 ?_
        refine z_istore C dX1_gladness_10 (by decide) (L' := [(0, _), (1, _), (2, _), (3, _), (4, _)]) rfl ?_
        have LP12 : ∀ (N12 : Nat) (k : Int) (b : Int), (5 ≤ b) → (b ≤ 10) → (k = zSum (sGl v g) a.toNat + zSum (sGr v g a) (b - 5).toNat) → (10 - b).toNat < N12 → zJ X 5 μ 12 [(0, .inr 22), (1, .inr t), (2, .inl k), (3, .inl a), (4, .inl b)] [] := by
          intro N12
          induction N12 with
          | zero => intro k b h12_0 h12_1 h12_2 hN; exact absurd hN (Nat.not_lt_zero _)
          | succ N12 ih12 =>
            intro k b h12_0 h12_1 h12_2 hN12
            have hb2 := sGr_b ho g a (b - 5).toNat (by omega) (by omega)
            refine z_iload C dX1_gladness_12 4 rfl ?_
            refine z_bipush C dX1_gladness_14 (by decide) ?_
            refine z_icmp_ge C dX1_gladness_16 (tgt := 58) (by decide) (by omega) (by decide) (fun c2 => ?_) (fun c2 => ?_)
            · refine z_iinc C dX1_gladness_58 3 rfl (by decide) (L' := [(0, _), (1, _), (2, _), (3, _), (4, _)]) rfl ?_
              refine z_goto C dX1_gladness_61 (tgt := 4) (by decide) ?_
              refine z_sub [0, 1, 2, 3] rfl ?_; exact ih4 _ _ (by omega) (by omega) (by rw [zSum_s _ (by omega), h12_2, show (b - 5).toNat = 5 by omega]; rfl) (by omega)
            · refine z_aload_n C dX1_gladness_19 0 rfl ?_
              refine z_getR C ffX1_9 dX1_gladness_20 (by decide) rfl rfl ?_
              refine z_iload_n C dX1_gladness_23 3 rfl ?_
              refine z_iald C dX1_gladness_24 (by decide) rfl (by omega) (by decide) (fun hr3 => ?_)
              rw [(hg a (by omega) (by omega)).1]
              have hgb := (hg a (by omega) (by omega)).2
              refine z_iload C dX1_gladness_25 4 rfl ?_
              refine z_callNi C (c_X5_bitOf (zl X) μ b (by omega)) yyX5_bitOf (by decide +kernel) dX1_gladness_27 rfl rfl (Nat.le_of_ble_eq_true rfl) (by decide) (fun r4 m4 hr4 hp4 => ?_)
              obtain ⟨rfl, hp4⟩ := hp4
              rw [hp4]
              have hz := zand_b _ hgb.1 hgb.2 b (by omega) (by omega)
              refine z_iand C dX1_gladness_30 ?_
              refine z_if_eq C dX1_gladness_31 (tgt := 52) (by decide) (by omega) (fun c5 => ?_) (fun c5 => ?_)
              · refine z_iinc C dX1_gladness_52 4 rfl (by decide) (L' := [(0, _), (1, _), (2, _), (3, _), (4, _)]) rfl ?_
                refine z_goto C dX1_gladness_55 (tgt := 12) (by decide) ?_
                exact ih12 _ _ (by omega) (by omega) (by rw [show b + 1 - 5 = (b - 5) + 1 by omega, zSum_s _ (by omega), h12_2]; unfold sGr; rw [show 5 + (b - 5) = b by omega, if_neg (by omega), Int.add_zero]) (by omega)
              · refine z_iload_n C dX1_gladness_34 2 rfl ?_
                refine z_aload_n C dX1_gladness_35 1 rfl ?_
                refine z_iload_n C dX1_gladness_36 3 rfl ?_
                refine z_iload C dX1_gladness_37 4 rfl ?_
                refine z_callVi C (c_X4_likes (zl X) μ t ht v hv ho a b (by omega)) yyX4_likes mlX1_49 (zRc_of (i := t) C (by have := zto_lt ht; omega) (zd_to0 ht) rfl) dX1_gladness_39 rfl rfl (Nat.le_of_ble_eq_true rfl) (by decide) (fun r6 m6 hr6 hp6 => ?_)
                obtain ⟨rfl, hp6⟩ := hp6
                rw [hp6]
                have hq1 := ho7 a b (by omega)
                refine z_aload_n C dX1_gladness_42 1 rfl ?_
                refine z_iload C dX1_gladness_43 4 rfl ?_
                refine z_iload_n C dX1_gladness_45 3 rfl ?_
                refine z_callVi C (c_X4_likes (zl X) μ t ht v hv ho b a (by omega)) yyX4_likes mlX1_49 (zRc_of (i := t) C (by have := zto_lt ht; omega) (zd_to0 ht) rfl) dX1_gladness_46 rfl rfl (Nat.le_of_ble_eq_true rfl) (by decide) (fun r7 m7 hr7 hp7 => ?_)
                obtain ⟨rfl, hp7⟩ := hp7
                rw [hp7]
                have hq2 := ho7 b a (by omega)
                refine z_iadd C dX1_gladness_49 ?_
                refine z_iadd C dX1_gladness_50 ?_
                refine z_istore_n C dX1_gladness_51 (by decide) (L' := [(0, _), (1, _), (2, _), (3, _), (4, _)]) rfl ?_
                refine z_iinc C dX1_gladness_52 4 rfl (by decide) (L' := [(0, _), (1, _), (2, _), (3, _), (4, _)]) rfl ?_
                refine z_goto C dX1_gladness_55 (tgt := 12) (by decide) ?_
                exact ih12 _ _ (by omega) (by omega) (by rw [show b + 1 - 5 = (b - 5) + 1 by omega, zSum_s _ (by omega), h12_2]; unfold sGr; rw [show 5 + (b - 5) = b by omega, if_pos (by omega)]; omega) (by omega)
        exact LP12 _ _ 5 (by omega) (by omega) (by rw [h4_2]; exact (Int.add_zero _).symm) (Nat.lt_succ_self _)
  exact LP4 _ 0 0 (by omega) (by omega) rfl (Nat.lt_succ_self _)
