/-! contracts: the reference: ranks, counts, pairs -/
theorem sNx_b {σ : zAS} {fr a : Int} (h : a = sNx σ fr) (hf : 0 ≤ fr ∧ fr ≤ 5) : -5 ≤ a ∧ a ≤ 9 := by
  have hU := sFst_U σ
  rw [h]
  unfold sNx
  split <;> omega
set_option maxHeartbeats 4000000 in
theorem c_X6_nextAsker (l : Launch) (μ : zM) (v : zVw) (ho : vOK v) (k fr : Int) (hfk : zFrm k fr) (σ : zAS) (h : zRk μ v k fr σ) : zMi l yX6_nextAsker cX6_nextAsker 7 (.int) 0 0 [.inr 31, .inl fr, .inl (vC v k), .inl (zAll v k)] μ (fun (r : Int) (m : zM) => μ = m ∧ r = sNx σ fr) := by
  refine zMi_of (own := RX6) (by decide +kernel) rfl (Nat.le_of_ble_eq_true rfl) ?_
  intro X hX C hrm E
  subst hX
  show zJ X 7 μ 0 [(0, .inr 31), (1, .inl fr), (2, .inl (vC v k)), (3, .inl (zAll v k))] []
  have hC := vC_b ho k
  have hA := zAll_b ho k
  refine z_iconst C dX6_nextAsker_0 ?_
  refine z_istore C dX6_nextAsker_1 (by decide) (L' := [(0, _), (1, _), (2, _), (3, _), (4, _)]) rfl ?_
  have LP3 : ∀ (N3 : Nat) (a : Int), (0 ≤ a) → (a ≤ vC v k) → (∀ i, 0 ≤ i → i < a → ¬ (σ.1 (fr + i) = -9 ∧ ¬ σ.2 (fr + i) = 0)) → (6 - a).toNat < N3 → zJ X 7 μ 3 [(0, .inr 31), (1, .inl fr), (2, .inl (vC v k)), (3, .inl (zAll v k)), (4, .inl a)] [] := by
    intro N3
    induction N3 with
    | zero => intro a h3_0 h3_1 h3_2 hN; exact absurd hN (Nat.not_lt_zero _)
    | succ N3 ih3 =>
      intro a h3_0 h3_1 h3_2 hN3
      refine z_iload C dX6_nextAsker_3 4 rfl ?_
      refine z_iload_n C dX6_nextAsker_5 2 rfl ?_
      refine z_icmp_ge C dX6_nextAsker_6 (tgt := 76) (by decide) (by omega) (by omega) (fun c1 => ?_) (fun c1 => ?_)
      · refine z_iconst C dX6_nextAsker_76 ?_
        exact E dX6_nextAsker_77 (by decide) rfl ⟨rfl, rk_none ho hfk h (fun i i0 i1 => h3_2 i i0 (by omega))⟩
      · refine z_iconst C dX6_nextAsker_9 ?_
        refine z_istore C dX6_nextAsker_10 (by decide) (L' := [(0, _), (1, _), (2, _), (3, _), (4, _), (5, _)]) rfl ?_
        refine z_iconst C dX6_nextAsker_12 ?_
        refine z_istore C dX6_nextAsker_13 (by decide) (L' := [(0, _), (1, _), (2, _), (3, _), (4, _), (5, _), (6, _)]) rfl ?_
        have LP15 : ∀ (N15 : Nat) (b : Int) (o : Int), (0 ≤ o) → (o ≤ 5) → ((b = 1 ∧ ∃ x, 0 ≤ x ∧ x < o ∧ μ 39 x = a) ∨ (b = 0 ∧ ∀ x, 0 ≤ x → x < o → ¬ μ 39 x = a)) → (6 - o).toNat < N15 → zJ X 7 μ 15 [(0, .inr 31), (1, .inl fr), (2, .inl (vC v k)), (3, .inl (zAll v k)), (4, .inl a), (5, .inl b), (6, .inl o)] [] := by
          intro N15
          induction N15 with
          | zero => intro b o h15_0 h15_1 h15_2 hN; exact absurd hN (Nat.not_lt_zero _)
          | succ N15 ih15 =>
            intro b o h15_0 h15_1 h15_2 hN15
            refine z_iload C dX6_nextAsker_15 6 rfl ?_
            refine z_iconst C dX6_nextAsker_17 ?_
            refine z_icmp_ge C dX6_nextAsker_18 (tgt := 51) (by decide) (by omega) (by decide) (fun c2 => ?_) (fun c2 => ?_)
            · have e15 := h15_2
              rw [show o = 5 by omega] at e15
              have hfree := rk_free hfk h (a := a) (by omega) e15
              clear e15 h15_2
              refine z_iload C dX6_nextAsker_51 5 rfl ?_
              refine z_if_ne C dX6_nextAsker_53 (tgt := 70) (by decide) (by omega) (fun c3 => ?_) (fun c3 => ?_)
              · refine z_iinc C dX6_nextAsker_70 4 rfl (by decide) (L' := [(0, _), (1, _), (2, _), (3, _), (4, _), (5, _), (6, _)]) rfl ?_
                refine z_goto C dX6_nextAsker_73 (tgt := 3) (by decide) ?_
                refine z_sub [0, 1, 2, 3, 4] rfl ?_; exact ih3 _ (by omega) (by omega) (fun i i0 i1 => by by_cases e : i = a; (rw [e]; exact fun z => absurd z.1 (by omega)); exact h3_2 i i0 (by omega)) (by omega)
              · refine z_aload_n C dX6_nextAsker_56 0 rfl ?_
                refine z_getR C ffX6_65 dX6_nextAsker_57 (by decide) rfl rfl ?_
                refine z_iload C dX6_nextAsker_60 4 rfl ?_
                refine z_iald C dX6_nextAsker_62 (by decide) rfl (by omega) (by decide) (fun hr4 => ?_)
                refine z_iload_n C dX6_nextAsker_63 3 rfl ?_
                have hall := rk_all ho h (a := a) (by omega) (by omega)
                refine z_icmp_eq C dX6_nextAsker_64 (tgt := 70) (by decide) (by omega) (by omega) (fun c5 => ?_) (fun c5 => ?_)
                · refine z_iinc C dX6_nextAsker_70 4 rfl (by decide) (L' := [(0, _), (1, _), (2, _), (3, _), (4, _), (5, _), (6, _)]) rfl ?_
                  refine z_goto C dX6_nextAsker_73 (tgt := 3) (by decide) ?_
                  refine z_sub [0, 1, 2, 3, 4] rfl ?_; exact ih3 _ (by omega) (by omega) (fun i i0 i1 => by by_cases e : i = a; (rw [e]; exact fun z => z.2 (hall.1 (by omega))); exact h3_2 i i0 (by omega)) (by omega)
                · refine z_iload C dX6_nextAsker_67 4 rfl ?_
                  exact E dX6_nextAsker_69 (by omega) rfl ⟨rfl, rk_next hfk h (by omega) (by omega) (fun z => by have y := hall.2 z; omega) h3_2⟩
            · refine z_iload C dX6_nextAsker_21 5 rfl ?_
              refine z_if_ne C dX6_nextAsker_23 (tgt := 38) (by decide) (by omega) (fun c6 => ?_) (fun c6 => ?_)
              · refine z_iconst C dX6_nextAsker_38 ?_
                refine z_goto C dX6_nextAsker_39 (tgt := 43) (by decide) ?_
                refine z_istore C dX6_nextAsker_43 (by decide) (L' := [(0, _), (1, _), (2, _), (3, _), (4, _), (5, _), (6, _)]) rfl ?_
                refine z_iinc C dX6_nextAsker_45 6 rfl (by decide) (L' := [(0, _), (1, _), (2, _), (3, _), (4, _), (5, _), (6, _)]) rfl ?_
                refine z_goto C dX6_nextAsker_48 (tgt := 15) (by decide) ?_
                exact ih15 _ _ (by omega) (by omega) (Or.inl ⟨rfl, by rcases h15_2 with ⟨e1, x, x0, x1, x2⟩ | ⟨e1, e2⟩; exact ⟨x, x0, by omega, x2⟩; omega⟩) (by omega)
              · refine z_aload_n C dX6_nextAsker_26 0 rfl ?_
                refine z_getR C ffX6_68 dX6_nextAsker_27 (by decide) rfl rfl ?_
                refine z_iload C dX6_nextAsker_30 6 rfl ?_
                refine z_iald C dX6_nextAsker_32 (by decide) rfl (by omega) (by decide) (fun hr7 => ?_)
                refine z_iload C dX6_nextAsker_33 4 rfl ?_
                refine z_icmp_ne C dX6_nextAsker_35 (tgt := 42) (by decide) (by omega) (by omega) (fun c8 => ?_) (fun c8 => ?_)
                · refine z_iconst C dX6_nextAsker_42 ?_
                  refine z_istore C dX6_nextAsker_43 (by decide) (L' := [(0, _), (1, _), (2, _), (3, _), (4, _), (5, _), (6, _)]) rfl ?_
                  refine z_iinc C dX6_nextAsker_45 6 rfl (by decide) (L' := [(0, _), (1, _), (2, _), (3, _), (4, _), (5, _), (6, _)]) rfl ?_
                  refine z_goto C dX6_nextAsker_48 (tgt := 15) (by decide) ?_
                  exact ih15 _ _ (by omega) (by omega) (Or.inr ⟨rfl, fun x x0 x1 => by rcases h15_2 with ⟨e1, y⟩ | ⟨e1, e2⟩; omega; by_cases e : x = o; (rw [e]; omega); exact e2 x x0 (by omega)⟩) (by omega)
                · refine z_iconst C dX6_nextAsker_38 ?_
                  refine z_goto C dX6_nextAsker_39 (tgt := 43) (by decide) ?_
                  refine z_istore C dX6_nextAsker_43 (by decide) (L' := [(0, _), (1, _), (2, _), (3, _), (4, _), (5, _), (6, _)]) rfl ?_
                  refine z_iinc C dX6_nextAsker_45 6 rfl (by decide) (L' := [(0, _), (1, _), (2, _), (3, _), (4, _), (5, _), (6, _)]) rfl ?_
                  refine z_goto C dX6_nextAsker_48 (tgt := 15) (by decide) ?_
                  exact ih15 _ _ (by omega) (by omega) (Or.inl ⟨rfl, o, by omega, by omega, by omega⟩) (by omega)
        exact LP15 _ 0 0 (by omega) (by omega) (Or.inr ⟨rfl, fun x x0 x1 => by omega⟩) (Nat.lt_succ_self _)
  exact LP3 _ 0 (by omega) (by omega) (fun i i0 i1 => by omega) (Nat.lt_succ_self _)
set_option maxHeartbeats 4000000 in
theorem c_X6_layRanks (l : Launch) (μ : zM) (v : zVw) (hq : zQ μ v) (ho : vOK v) (k fr : Int) (hfk : zFrm k fr) : zMv l yX6_layRanks cX6_layRanks 6 2 46 [.inr 31, .inl fr] μ (fun (m : zM) => (∀ p, 0 ≤ p → p < 10 → m 40 p = (sIt v (sIn v k) 25).1 p) ∧ ∀ x, (x < 38 ∨ 40 < x) → m x = μ x) := by
  refine zMv_of (own := RX6) (by decide +kernel) rfl (Nat.le_of_ble_eq_true rfl) ?_
  intro X hX C hrm E
  subst hX
  show zJ X 6 μ 0 [(0, .inr 31), (1, .inl fr)] []
  obtain ⟨hq1, hq2, hq3, hq4, hq5, hq6, hq7⟩ := id hq
  obtain ⟨ho1, ho2, ho3, ho4, ho5, ho6, ho7⟩ := id ho
  have hN := vN_ok ho
  have hC := vC_b ho k
  have hA := zAll_b ho k
  have JP36 :  zJ X 6 μ 36 [(0, .inr 31), (1, .inl fr), (2, .inl (vC v k)), (3, .inl (zAll v k))] [] := by
    refine z_iconst C dX6_layRanks_36 ?_
    refine z_istore C dX6_layRanks_37 (by decide) (L' := [(0, _), (1, _), (2, _), (3, _), (4, _)]) rfl ?_
    have LP39 : ∀ (N39 : Nat) (a : Int) (ma : zM), (0 ≤ a) → (a ≤ 5) → (∀ x, 0 ≤ x → x < a → ma 38 x = 0 ∧ ma 39 x = -1) → (∀ x, ¬ x = 38 → ¬ x = 39 → ma x = μ x) → (6 - a).toNat < N39 → zJ X 6 ma 39 [(0, .inr 31), (1, .inl fr), (2, .inl (vC v k)), (3, .inl (zAll v k)), (4, .inl a)] [] := by
      intro N39
      induction N39 with
      | zero => intro a ma h39_0 h39_1 h39_2 h39_3 hN; exact absurd hN (Nat.not_lt_zero _)
      | succ N39 ih39 =>
        intro a ma h39_0 h39_1 h39_2 h39_3 hN39
        refine z_iload C dX6_layRanks_39 4 rfl ?_
        refine z_iconst C dX6_layRanks_41 ?_
        refine z_icmp_ge C dX6_layRanks_42 (tgt := 67) (by decide) (by omega) (by decide) (fun c1 => ?_) (fun c1 => ?_)
        · have hRk : zRk ma v k fr (sIn v k) := rk_in ho hfk (fun x x0 x1 => h39_2 x x0 (by omega))
          refine z_aload_n C dX6_layRanks_67 0 rfl ?_
          refine z_iload_n C dX6_layRanks_68 1 rfl ?_
          refine z_iload_n C dX6_layRanks_69 2 rfl ?_
          refine z_iload_n C dX6_layRanks_70 3 rfl ?_
          refine z_callVi C (c_X6_nextAsker (zl X) ma v ho k fr hfk (sIn v k) hRk) yyX6_nextAsker mlX6_232 (zRc_of (i := 31) C (by decide) rfl rfl) dX6_layRanks_71 rfl rfl (Nat.le_of_ble_eq_true rfl) (by decide) (fun r2 m2 hr2 hp2 => ?_)
          obtain ⟨rfl, hp2⟩ := hp2
          have hnx0 := hp2
          refine z_istore C dX6_layRanks_74 (by decide) (L' := [(0, _), (1, _), (2, _), (3, _), (4, _)]) rfl ?_
          have LP76 : ∀ (N76 : Nat) (a : Int) (i : Int) (mb : zM), (0 ≤ i) → (i + sLeft (sIt v (sIn v k) i.toNat) ≤ 25) → (a = sNx (sIt v (sIn v k) i.toNat) fr) → (zRk mb v k fr (sIt v (sIn v k) i.toNat)) → (∀ x, ¬ x = 38 → ¬ x = 39 → mb x = μ x) → (26 - i).toNat < N76 → zJ X 6 mb 76 [(0, .inr 31), (1, .inl fr), (2, .inl (vC v k)), (3, .inl (zAll v k)), (4, .inl a)] [] := by
            intro N76
            induction N76 with
            | zero => intro a i mb h76_0 h76_1 h76_2 h76_3 h76_4 hN; exact absurd hN (Nat.not_lt_zero _)
            | succ N76 ih76 =>
              intro a i mb h76_0 h76_1 h76_2 h76_3 h76_4 hN76
              have hxb := sNx_b h76_2 (by omega)
              have hB := sIt_b (v := v) (sIn_b ho k) i.toNat
              have hLb := sLeft_b hB
              have hqb : zQ mb v := (zQ_fr hq (fun x _ _ => by rw [h76_4 31 (by omega) (by omega)]) (by rw [h76_4 32 (by omega) (by omega)]) (by rw [h76_4 33 (by omega) (by omega)]) (by rw [h76_4 34 (by omega) (by omega)]))
              refine z_iload C dX6_layRanks_76 4 rfl ?_
              refine z_if_lt C dX6_layRanks_78 (tgt := 169) (by decide) (by omega) (fun c3 => ?_) (fun c3 => ?_)
              · have hF := sNx_none h76_2 (by omega) (by omega) (rk_zero hfk h76_3)
                have hI := sIt_25 (k := i) (by omega) hF
                refine z_iconst C dX6_layRanks_169 ?_
                refine z_istore C dX6_layRanks_170 (by decide) (L' := [(0, _), (1, _), (2, _), (3, _), (4, _), (5, _)]) rfl ?_
                have LP172 : ∀ (N172 : Nat) (p : Int) (mc : zM), (0 ≤ p) → (p ≤ 10) → (∀ x, 0 ≤ x → x < p → mc 40 x = -9) → (∀ x, ¬ x = 40 → mc x = mb x) → (11 - p).toNat < N172 → zJ X 6 mc 172 [(0, .inr 31), (1, .inl fr), (2, .inl (vC v k)), (3, .inl (zAll v k)), (4, .inl a), (5, .inl p)] [] := by
                  intro N172
                  induction N172 with
                  | zero => intro p mc h172_0 h172_1 h172_2 h172_3 hN; exact absurd hN (Nat.not_lt_zero _)
                  | succ N172 ih172 =>
                    intro p mc h172_0 h172_1 h172_2 h172_3 hN172
                    refine z_iload C dX6_layRanks_172 5 rfl ?_
                    refine z_bipush C dX6_layRanks_174 (by decide) ?_
                    refine z_icmp_ge C dX6_layRanks_176 (tgt := 194) (by decide) (by omega) (by decide) (fun c4 => ?_) (fun c4 => ?_)
                    · refine z_iconst C dX6_layRanks_194 ?_
                      refine z_istore C dX6_layRanks_195 (by decide) (L' := [(0, _), (1, _), (2, _), (3, _), (4, _), (5, _)]) rfl ?_
                      have LP197 : ∀ (N197 : Nat) (o : Int) (md : zM), (0 ≤ o) → (o ≤ 5) → (zGt md (fun x => mb 39 x) fr o (sIt v (sIn v k) i.toNat).1) → (∀ x, ¬ x = 40 → md x = mb x) → (6 - o).toNat < N197 → zJ X 6 md 197 [(0, .inr 31), (1, .inl fr), (2, .inl (vC v k)), (3, .inl (zAll v k)), (4, .inl a), (5, .inl o)] [] := by
                        intro N197
                        induction N197 with
                        | zero => intro o md h197_0 h197_1 h197_2 h197_3 hN; exact absurd hN (Nat.not_lt_zero _)
                        | succ N197 ih197 =>
                          intro o md h197_0 h197_1 h197_2 h197_3 hN197
                          refine z_iload C dX6_layRanks_197 5 rfl ?_
                          refine z_iconst C dX6_layRanks_199 ?_
                          refine z_icmp_ge C dX6_layRanks_200 (tgt := 262) (by decide) (by omega) (by decide) (fun c5 => ?_) (fun c5 => ?_)
                          · exact E dX6_layRanks_262 ⟨(by rw [hI]; exact zGt_end hfk h76_3 (by rw [show o = 5 by omega] at h197_2; exact h197_2)), (fun x hx => by rw [h197_3 x (by omega), h76_4 x (by omega) (by omega)])⟩
                          · refine z_aload_n C dX6_layRanks_203 0 rfl ?_
                            refine z_getR C ffX6_68 dX6_layRanks_204 (by decide) rfl rfl ?_
                            refine z_iload C dX6_layRanks_207 5 rfl ?_
                            refine z_iald C dX6_layRanks_209 (by decide) rfl (by omega) (by decide) (fun hr6 => ?_)
                            rw [show md 39 o = mb 39 o by rw [h197_3 39 (by omega)]]
                            have g3 := h76_3.2.2.1 o (by omega) (by omega)
                            refine z_if_ge C dX6_layRanks_210 (tgt := 216) (by decide) (by omega) (fun c7 => ?_) (fun c7 => ?_)
                            · refine z_aload_n C dX6_layRanks_216 0 rfl ?_
                              refine z_getR C ffX6_71 dX6_layRanks_217 (by decide) rfl rfl ?_
                              refine z_iconst C dX6_layRanks_220 ?_
                              refine z_iload_n C dX6_layRanks_221 1 rfl ?_
                              refine z_isub C dX6_layRanks_222 ?_
                              refine z_iload C dX6_layRanks_223 5 rfl ?_
                              refine z_iadd C dX6_layRanks_225 ?_
                              refine z_iload_n C dX6_layRanks_226 1 rfl ?_
                              refine z_aload_n C dX6_layRanks_227 0 rfl ?_
                              refine z_getR C ffX6_68 dX6_layRanks_228 (by decide) rfl rfl ?_
                              refine z_iload C dX6_layRanks_231 5 rfl ?_
                              refine z_iald C dX6_layRanks_233 (by decide) rfl (by omega) (by decide) (fun hr8 => ?_)
                              rw [show md 39 o = mb 39 o by rw [h197_3 39 (by omega)]]
                              have g3 := h76_3.2.2.1 o (by omega) (by omega)
                              refine z_iadd C dX6_layRanks_234 ?_
                              refine z_iast C dX6_layRanks_235 (by decide) rfl (by omega) (by decide) (by omega) ?_
                              refine z_mem (fun m9 em9 => ?_)
                              refine z_aload_n C dX6_layRanks_236 0 rfl ?_
                              refine z_getR C ffX6_71 dX6_layRanks_237 (by decide) rfl rfl ?_
                              refine z_iload_n C dX6_layRanks_240 1 rfl ?_
                              refine z_aload_n C dX6_layRanks_241 0 rfl ?_
                              refine z_getR C ffX6_68 dX6_layRanks_242 (by decide) rfl rfl ?_
                              refine z_iload C dX6_layRanks_245 5 rfl ?_
                              refine z_iald C dX6_layRanks_247 (by decide) rfl (by omega) (by decide) (fun hr10 => ?_)
                              rw [show m9 39 o = mb 39 o by rw [em9, zs_ne _ _ _ (by omega), h197_3 39 (by omega)]]
                              have g3 := h76_3.2.2.1 o (by omega) (by omega)
                              refine z_iadd C dX6_layRanks_248 ?_
                              refine z_iconst C dX6_layRanks_249 ?_
                              refine z_iload_n C dX6_layRanks_250 1 rfl ?_
                              refine z_isub C dX6_layRanks_251 ?_
                              refine z_iload C dX6_layRanks_252 5 rfl ?_
                              refine z_iadd C dX6_layRanks_254 ?_
                              refine z_iast C dX6_layRanks_255 (by decide) rfl (by omega) (by decide) (by omega) ?_
                              refine z_mem (fun m11 em11 => ?_)
                              refine z_iinc C dX6_layRanks_256 5 rfl (by decide) (L' := [(0, _), (1, _), (2, _), (3, _), (4, _), (5, _)]) rfl ?_
                              refine z_goto C dX6_layRanks_259 (tgt := 197) (by decide) ?_
                              exact ih197 _ m11 (by omega) (by omega) (zGt_yes hfk h197_2 (by omega) (by show 0 ≤ mb 39 o ∧ mb 39 o < 5; omega) (by show _ = fr + mb 39 o; omega) (fun x x0 x1 z => absurd (rk_inj h76_3 (x := x) (o := o) (by omega) (by omega) (by omega) z) (by omega)) em9 em11) (fun x y => by rw [em11, zs_ne _ _ _ y, em9, zs_ne _ _ _ y]; exact h197_3 x y) (by omega)
                            · refine z_goto C dX6_layRanks_213 (tgt := 256) (by decide) ?_
                              refine z_iinc C dX6_layRanks_256 5 rfl (by decide) (L' := [(0, _), (1, _), (2, _), (3, _), (4, _), (5, _)]) rfl ?_
                              refine z_goto C dX6_layRanks_259 (tgt := 197) (by decide) ?_
                              exact ih197 _ md (by omega) (by omega) (zGt_no h197_2 (by show mb 39 o = -1; omega) (by omega)) h197_3 (by omega)
                      exact LP197 _ 0 mc (by omega) (by omega) (zGt_0 hfk (fun x x0 x1 => h172_2 x x0 (by omega))) h172_3 (Nat.lt_succ_self _)
                    · refine z_aload_n C dX6_layRanks_179 0 rfl ?_
                      refine z_getR C ffX6_71 dX6_layRanks_180 (by decide) rfl rfl ?_
                      refine z_iload C dX6_layRanks_183 5 rfl ?_
                      refine z_bipush C dX6_layRanks_185 (by decide) ?_
                      refine z_iast C dX6_layRanks_187 (by decide) rfl (by omega) (by decide) (by decide) ?_
                      refine z_mem (fun m12 em12 => ?_)
                      refine z_iinc C dX6_layRanks_188 5 rfl (by decide) (L' := [(0, _), (1, _), (2, _), (3, _), (4, _), (5, _)]) rfl ?_
                      refine z_goto C dX6_layRanks_191 (tgt := 172) (by decide) ?_
                      exact ih172 _ m12 (by omega) (by omega) (fun x x0 x1 => by rw [em12]; exact zs_upto (f := fun _ => -9) h172_2 rfl x x0 x1) (fun x y => by rw [em12, zs_ne _ _ _ y]; exact h172_3 x y) (by omega)
                exact LP172 _ 0 mb (by omega) (by omega) (fun x x0 x1 => by omega) (fun _ _ => rfl) (Nat.lt_succ_self _)
              · have hU := sNx_U h76_2 (by omega) (by omega)
                have hac := rk_lt hfk h76_3 (by omega) (by omega) hU.2.2.2.2
                have hsu := (h76_3.1 a (by omega) hac.1).2.1 hac.2
                have hUb := (hB (fr + a) hU.2.1 hU.2.2.1).2
                have hsab := (h76_3.1 a (by omega) hac.1).1
                have hnx : sIt v (sIn v k) (i + 1).toNat = sStp v (sIt v (sIn v k) i.toNat) (fr + a) := by rw [sIt_s (by omega) (by rw [hU.1]; omega), hU.1]
                refine z_aload_n C dX6_layRanks_81 0 rfl ?_
                refine z_iload_n C dX6_layRanks_82 1 rfl ?_
                refine z_iload C dX6_layRanks_83 4 rfl ?_
                refine z_iadd C dX6_layRanks_85 ?_
                refine z_iload_n C dX6_layRanks_86 3 rfl ?_
                refine z_aload_n C dX6_layRanks_87 0 rfl ?_
                refine z_getR C ffX6_65 dX6_layRanks_88 (by decide) rfl rfl ?_
                refine z_iload C dX6_layRanks_91 4 rfl ?_
                refine z_iald C dX6_layRanks_93 (by decide) rfl (by omega) (by decide) (fun hr13 => ?_)
                refine z_iconst C dX6_layRanks_94 ?_
                refine z_ixor C dX6_layRanks_95 ?_
                refine z_iand C dX6_layRanks_96 ?_
                rw [← hsu.1]
                refine z_callVi C (c_X6_dearest (zl X) mb v hqb ho (fr + a) ((sIt v (sIn v k) i.toNat).2 (fr + a)) (by omega) hUb) yyX6_dearest mlX6_235 (zRc_of (i := 31) C (by decide) rfl rfl) dX6_layRanks_97 rfl rfl (Nat.le_of_ble_eq_true rfl) (by decide) (fun r14 m14 hr14 hp14 => ?_)
                obtain ⟨rfl, hp14⟩ := hp14
                have hsf := sFav_some v (p := fr + a) (by omega) hUb hU.2.2.2.2
                have hro := hp14
                rw [if_neg hsf] at hro
                have hfU := ((sFav_U v ((sIt v (sIn v k) i.toNat).2 (fr + a)) (p := fr + a) (by omega)).resolve_left hsf).1
                have hrb : 0 ≤ r14 ∧ r14 < 5 := by omega
                have hfo : sFav v (fr + a) ((sIt v (sIn v k) i.toNat).2 (fr + a)) = 5 - fr + r14 := by omega
                have hzo := zor_bit (mb 38 a) hsab.1 hsab.2 r14 (by omega) (by omega)
                have g3 := h76_3.2.2.1 r14 hrb.1 hrb.2
                refine z_istore C dX6_layRanks_100 (by decide) (L' := [(0, _), (1, _), (2, _), (3, _), (4, _), (5, _)]) rfl ?_
                refine z_aload_n C dX6_layRanks_102 0 rfl ?_
                refine z_getR C ffX6_65 dX6_layRanks_103 (by decide) rfl rfl ?_
                refine z_iload C dX6_layRanks_106 4 rfl ?_
                refine z_dup2 C dX6_layRanks_108 ?_
                refine z_iald C dX6_layRanks_109 (by decide) rfl (by omega) (by decide) (fun hr15 => ?_)
                refine z_iconst C dX6_layRanks_110 ?_
                refine z_iload C dX6_layRanks_111 5 rfl ?_
                refine z_ishl C dX6_layRanks_113 ?_
                rw [zshl_bit hrb]
                refine z_ior C dX6_layRanks_114 ?_
                refine z_iast C dX6_layRanks_115 (by decide) rfl (by omega) (by decide) (by omega) ?_
                refine z_mem (fun m16 em16 => ?_)
                refine z_aload_n C dX6_layRanks_116 0 rfl ?_
                refine z_getR C ffX6_68 dX6_layRanks_117 (by decide) rfl rfl ?_
                refine z_iload C dX6_layRanks_120 5 rfl ?_
                refine z_iald C dX6_layRanks_122 (by decide) rfl (by omega) (by decide) (fun hr17 => ?_)
                rw [show m16 39 r14 = mb 39 r14 by rw [em16, zs_ne _ _ _ (by omega)]]
                refine z_if_lt C dX6_layRanks_123 (tgt := 148) (by decide) (by omega) (fun c18 => ?_) (fun c18 => ?_)
                · refine z_aload_n C dX6_layRanks_148 0 rfl ?_
                  refine z_getR C ffX6_68 dX6_layRanks_149 (by decide) rfl rfl ?_
                  refine z_iload C dX6_layRanks_152 5 rfl ?_
                  refine z_iload C dX6_layRanks_154 4 rfl ?_
                  refine z_iast C dX6_layRanks_156 (by decide) rfl (by omega) (by decide) (by omega) ?_
                  refine z_mem (fun m19 em19 => ?_)
                  have hRk2 : zRk m19 v k fr (sStp v (sIt v (sIn v k) i.toNat) (fr + a)) := rk_step ho hfk h76_3 hB (by omega) hac.2 hU.2.2.2.1 hfo hrb (fun x => by rw [em19, zs_ne _ _ _ (by omega), em16, zs_at]) (fun _ x => by rw [em19, zs_at, em16, zs_ne _ _ _ (by omega)]) (fun z => absurd (Or.inl (by omega)) z)
                  refine z_aload_n C dX6_layRanks_157 0 rfl ?_
                  refine z_iload_n C dX6_layRanks_158 1 rfl ?_
                  refine z_iload_n C dX6_layRanks_159 2 rfl ?_
                  refine z_iload_n C dX6_layRanks_160 3 rfl ?_
                  refine z_callVi C (c_X6_nextAsker (zl X) m19 v ho k fr hfk (sStp v (sIt v (sIn v k) i.toNat) (fr + a)) hRk2) yyX6_nextAsker mlX6_232 (zRc_of (i := 31) C (by decide) rfl rfl) dX6_layRanks_161 rfl rfl (Nat.le_of_ble_eq_true rfl) (by decide) (fun r20 m20 hr20 hp20 => ?_)
                  obtain ⟨rfl, hp20⟩ := hp20
                  refine z_istore C dX6_layRanks_164 (by decide) (L' := [(0, _), (1, _), (2, _), (3, _), (4, _), (5, _)]) rfl ?_
                  refine z_goto C dX6_layRanks_166 (tgt := 76) (by decide) ?_
                  refine z_sub [0, 1, 2, 3, 4] rfl ?_; exact ih76 _ (i + 1) m19 (by omega) (by rw [hnx, rk_less hB ⟨hU.2.1, hU.2.2.1⟩ (by rw [hfo]; exact (sOth_f2 hfk (by omega) _).symm) hrb]; omega) (by rw [hnx]; exact hp20) (by rw [hnx]; exact hRk2) (fun x y z => by rw [em19, zs_ne _ _ _ (by omega), em16, zs_ne _ _ _ (by omega)]; exact h76_4 x y z) (by omega)
                · refine z_aload_n C dX6_layRanks_126 0 rfl ?_
                  refine z_iconst C dX6_layRanks_127 ?_
                  refine z_iload_n C dX6_layRanks_128 1 rfl ?_
                  refine z_isub C dX6_layRanks_129 ?_
                  refine z_iload C dX6_layRanks_130 5 rfl ?_
                  refine z_iadd C dX6_layRanks_132 ?_
                  refine z_iload C dX6_layRanks_133 4 rfl ?_
                  refine z_aload_n C dX6_layRanks_135 0 rfl ?_
                  refine z_getR C ffX6_68 dX6_layRanks_136 (by decide) rfl rfl ?_
                  refine z_iload C dX6_layRanks_139 5 rfl ?_
                  refine z_iald C dX6_layRanks_141 (by decide) rfl (by omega) (by decide) (fun hr21 => ?_)
                  rw [show m16 39 r14 = mb 39 r14 by rw [em16, zs_ne _ _ _ (by omega)]]
                  refine z_callVi C (c_X6_isRather (zl X) m16 v (zQ_fr hqb (fun x _ _ => by rw [em16, zs_ne _ _ _ (by omega)]) (by rw [em16, zs_ne _ _ _ (by omega)]) (by rw [em16, zs_ne _ _ _ (by omega)]) (by rw [em16, zs_ne _ _ _ (by omega)])) ho ((5 - fr) + r14) a (mb 39 r14) (by omega) (by omega) (by omega)) yyX6_isRather mlX6_238 (zRc_of (i := 31) C (by decide) rfl rfl) dX6_layRanks_142 rfl rfl (Nat.le_of_ble_eq_true rfl) (by decide) (fun r22 m22 hr22 hp22 => ?_)
                  obtain ⟨rfl, hp22⟩ := hp22
                  rcases hp22 with ⟨rfl, hp22⟩ | ⟨rfl, hp22⟩
                  · have hrt := hp22
                    rw [sOth_f hfk hrb, sOth_f hfk hrb] at hrt
                    refine z_if_eq C dX6_layRanks_145 (tgt := 157) (by decide) (by decide) (fun c23 => (by exfalso; omega)) (fun _ => ?_)
                    refine z_aload_n C dX6_layRanks_148 0 rfl ?_
                    refine z_getR C ffX6_68 dX6_layRanks_149 (by decide) rfl rfl ?_
                    refine z_iload C dX6_layRanks_152 5 rfl ?_
                    refine z_iload C dX6_layRanks_154 4 rfl ?_
                    refine z_iast C dX6_layRanks_156 (by decide) rfl (by omega) (by decide) (by omega) ?_
                    refine z_mem (fun m24 em24 => ?_)
                    have hRk2 : zRk m24 v k fr (sStp v (sIt v (sIn v k) i.toNat) (fr + a)) := rk_step ho hfk h76_3 hB (by omega) hac.2 hU.2.2.2.1 hfo hrb (fun x => by rw [em24, zs_ne _ _ _ (by omega), em16, zs_at]) (fun _ x => by rw [em24, zs_at, em16, zs_ne _ _ _ (by omega)]) (fun z => absurd (Or.inr hrt) z)
                    refine z_aload_n C dX6_layRanks_157 0 rfl ?_
                    refine z_iload_n C dX6_layRanks_158 1 rfl ?_
                    refine z_iload_n C dX6_layRanks_159 2 rfl ?_
                    refine z_iload_n C dX6_layRanks_160 3 rfl ?_
                    refine z_callVi C (c_X6_nextAsker (zl X) m24 v ho k fr hfk (sStp v (sIt v (sIn v k) i.toNat) (fr + a)) hRk2) yyX6_nextAsker mlX6_232 (zRc_of (i := 31) C (by decide) rfl rfl) dX6_layRanks_161 rfl rfl (Nat.le_of_ble_eq_true rfl) (by decide) (fun r25 m25 hr25 hp25 => ?_)
                    obtain ⟨rfl, hp25⟩ := hp25
                    refine z_istore C dX6_layRanks_164 (by decide) (L' := [(0, _), (1, _), (2, _), (3, _), (4, _), (5, _)]) rfl ?_
                    refine z_goto C dX6_layRanks_166 (tgt := 76) (by decide) ?_
                    refine z_sub [0, 1, 2, 3, 4] rfl ?_; exact ih76 _ (i + 1) m24 (by omega) (by rw [hnx, rk_less hB ⟨hU.2.1, hU.2.2.1⟩ (by rw [hfo]; exact (sOth_f2 hfk (by omega) _).symm) hrb]; omega) (by rw [hnx]; exact hp25) (by rw [hnx]; exact hRk2) (fun x y z => by rw [em24, zs_ne _ _ _ (by omega), em16, zs_ne _ _ _ (by omega)]; exact h76_4 x y z) (by omega)
                  · have hrt := hp22
                    rw [sOth_f hfk hrb, sOth_f hfk hrb] at hrt
                    refine z_if_eq C dX6_layRanks_145 (tgt := 157) (by decide) (by decide) (fun _ => ?_) (fun c26 => (by exfalso; omega))
                    have hRk2 : zRk m16 v k fr (sStp v (sIt v (sIn v k) i.toNat) (fr + a)) := rk_step ho hfk h76_3 hB (by omega) hac.2 hU.2.2.2.1 hfo hrb (fun x => by rw [em16, zs_at]) (fun z => absurd z (fun y => y.elim (fun x => by omega) hrt)) (fun _ x => by rw [em16, zs_ne _ _ _ (by omega)])
                    refine z_aload_n C dX6_layRanks_157 0 rfl ?_
                    refine z_iload_n C dX6_layRanks_158 1 rfl ?_
                    refine z_iload_n C dX6_layRanks_159 2 rfl ?_
                    refine z_iload_n C dX6_layRanks_160 3 rfl ?_
                    refine z_callVi C (c_X6_nextAsker (zl X) m16 v ho k fr hfk (sStp v (sIt v (sIn v k) i.toNat) (fr + a)) hRk2) yyX6_nextAsker mlX6_232 (zRc_of (i := 31) C (by decide) rfl rfl) dX6_layRanks_161 rfl rfl (Nat.le_of_ble_eq_true rfl) (by decide) (fun r27 m27 hr27 hp27 => ?_)
                    obtain ⟨rfl, hp27⟩ := hp27
                    refine z_istore C dX6_layRanks_164 (by decide) (L' := [(0, _), (1, _), (2, _), (3, _), (4, _), (5, _)]) rfl ?_
                    refine z_goto C dX6_layRanks_166 (tgt := 76) (by decide) ?_
                    refine z_sub [0, 1, 2, 3, 4] rfl ?_; exact ih76 _ (i + 1) m16 (by omega) (by rw [hnx, rk_less hB ⟨hU.2.1, hU.2.2.1⟩ (by rw [hfo]; exact (sOth_f2 hfk (by omega) _).symm) hrb]; omega) (by rw [hnx]; exact hp27) (by rw [hnx]; exact hRk2) (fun x y z => by rw [em16, zs_ne _ _ _ (by omega)]; exact h76_4 x y z) (by omega)
          exact LP76 _ _ 0 ma (by omega) (by rw [Int.zero_add]; exact rk_left ho (by omega)) hnx0 hRk h39_3 (Nat.lt_succ_self _)
        · refine z_aload_n C dX6_layRanks_45 0 rfl ?_
          refine z_getR C ffX6_65 dX6_layRanks_46 (by decide) rfl rfl ?_
          refine z_iload C dX6_layRanks_49 4 rfl ?_
          refine z_iconst C dX6_layRanks_51 ?_
          refine z_iast C dX6_layRanks_52 (by decide) rfl (by omega) (by decide) (by decide) ?_
          refine z_mem (fun m28 em28 => ?_)
          refine z_aload_n C dX6_layRanks_53 0 rfl ?_
          refine z_getR C ffX6_68 dX6_layRanks_54 (by decide) rfl rfl ?_
          refine z_iload C dX6_layRanks_57 4 rfl ?_
          refine z_iconst C dX6_layRanks_59 ?_
          refine z_iast C dX6_layRanks_60 (by decide) rfl (by omega) (by decide) (by decide) ?_
          refine z_mem (fun m29 em29 => ?_)
          refine z_iinc C dX6_layRanks_61 4 rfl (by decide) (L' := [(0, _), (1, _), (2, _), (3, _), (4, _)]) rfl ?_
          refine z_goto C dX6_layRanks_64 (tgt := 39) (by decide) ?_
          exact ih39 _ m29 (by omega) (by omega) (fun x x0 x1 => ⟨(by rw [em29, zs_ne _ _ _ (by omega), em28]; exact zs_upto (f := fun _ => 0) (fun y y0 y1 => (h39_2 y y0 y1).1) rfl x x0 x1), (by rw [em29]; exact zs_upto (f := fun _ => -1) (fun y y0 y1 => by rw [em28, zs_ne _ _ _ (by omega)]; exact (h39_2 y y0 y1).2) rfl x x0 x1)⟩) (fun x y z => by rw [em29, zs_ne _ _ _ z, em28, zs_ne _ _ _ y]; exact h39_3 x y z) (by omega)
    exact LP39 _ 0 μ (by omega) (by omega) (fun x x0 x1 => by omega) (fun _ _ _ => rfl) (Nat.lt_succ_self _)
  refine z_iload_n C dX6_layRanks_0 1 rfl ?_
  refine z_if_ne C dX6_layRanks_1 (tgt := 11) (by decide) (by omega) (fun c30 => ?_) (fun c30 => ?_)
  · refine z_aload_n C dX6_layRanks_11 0 rfl ?_
    refine z_getI C ffX6_13 dX6_layRanks_12 (by decide) rfl rfl 1 rfl (fun hr31 => ?_)
    rw [show (μ 31 1) = vC v k by unfold vC; split <;> omega]
    refine z_istore_n C dX6_layRanks_15 (by decide) (L' := [(0, _), (1, _), (2, _)]) rfl ?_
    refine z_iconst C dX6_layRanks_16 ?_
    refine z_iload_n C dX6_layRanks_17 1 rfl ?_
    refine z_if_ne C dX6_layRanks_18 (tgt := 28) (by decide) (by omega) (fun _ => ?_) (fun c32 => (by exfalso; omega))
    refine z_aload_n C dX6_layRanks_28 0 rfl ?_
    refine z_getI C ffX6_7 dX6_layRanks_29 (by decide) rfl rfl 0 rfl (fun hr33 => ?_)
    rw [show (μ 31 0) = vC v (1 - k) by unfold vC; split <;> omega]
    refine z_ishl C dX6_layRanks_32 ?_
    refine z_iconst C dX6_layRanks_33 ?_
    refine z_isub C dX6_layRanks_34 ?_
    rw [show zshl 1 (vC v (1 - k)) - 1 = zAll v k from rfl]
    refine z_istore_n C dX6_layRanks_35 (by decide) (L' := [(0, _), (1, _), (2, _), (3, _)]) rfl ?_
    exact JP36  
  · refine z_aload_n C dX6_layRanks_4 0 rfl ?_
    refine z_getI C ffX6_7 dX6_layRanks_5 (by decide) rfl rfl 0 rfl (fun hr34 => ?_)
    refine z_goto C dX6_layRanks_8 (tgt := 15) (by decide) ?_
    rw [show (μ 31 0) = vC v k by unfold vC; split <;> omega]
    refine z_istore_n C dX6_layRanks_15 (by decide) (L' := [(0, _), (1, _), (2, _)]) rfl ?_
    refine z_iconst C dX6_layRanks_16 ?_
    refine z_iload_n C dX6_layRanks_17 1 rfl ?_
    refine z_if_ne C dX6_layRanks_18 (tgt := 28) (by decide) (by omega) (fun c35 => (by exfalso; omega)) (fun _ => ?_)
    refine z_aload_n C dX6_layRanks_21 0 rfl ?_
    refine z_getI C ffX6_13 dX6_layRanks_22 (by decide) rfl rfl 1 rfl (fun hr36 => ?_)
    refine z_goto C dX6_layRanks_25 (tgt := 32) (by decide) ?_
    rw [show (μ 31 1) = vC v (1 - k) by unfold vC; split <;> omega]
    refine z_ishl C dX6_layRanks_32 ?_
    refine z_iconst C dX6_layRanks_33 ?_
    refine z_isub C dX6_layRanks_34 ?_
    rw [show zshl 1 (vC v (1 - k)) - 1 = zAll v k from rfl]
    refine z_istore_n C dX6_layRanks_35 (by decide) (L' := [(0, _), (1, _), (2, _), (3, _)]) rfl ?_
    exact JP36  
set_option maxHeartbeats 4000000 in
theorem c_X6_ranks (l : Launch) (μ : zM) (s : zS) (hs : zRf μ s) (hso : sOK s) (p : Int) (hpr : zR p) : zMi l yX6_ranks cX6_ranks 2 (.int) 3 71 [.inr 31, .inl p] μ (fun (r : Int) (m : zM) => r = (tGot s p 0).1 ∧ zRf m (tGot s p 0).2 ∧ ∀ a, (a < 31 ∨ 48 ≤ a) → m a = μ a) := by
  refine zMi_of (own := RX6) (by decide +kernel) rfl (Nat.le_of_ble_eq_true rfl) ?_
  intro X hX C hrm E
  subst hX
  show zJ X 2 μ 0 [(0, .inr 31), (1, .inl p)] []
  obtain ⟨hq, hk, hi, hl, hm, hw, hf⟩ := id hs
  obtain ⟨ho, hok, hoi, hon, hot, hom, how⟩ := id hso
  generalize hgv : gV s = v at hq ho
  obtain ⟨hq1, hq2, hq3, hq4, hq5, hq6, hq7⟩ := id hq
  obtain ⟨ho1, ho2, ho3, ho4, ho5, ho6, ho7⟩ := id ho
  have hN := vN_ok ho
  refine z_aload_n C dX6_ranks_0 0 rfl ?_
  refine z_iload_n C dX6_ranks_1 1 rfl ?_
  refine z_callVi C (c_X6_isPerson (zl X) μ v hq ho p (by omega)) yyX6_isPerson mlX6_124 (zRc_of (i := 31) C (by decide) rfl rfl) dX6_ranks_2 rfl rfl (Nat.le_of_ble_eq_true rfl) (by decide) (fun r1 m1 hr1 hp1 => ?_)
  obtain ⟨rfl, hp1⟩ := hp1
  rcases hp1 with ⟨rfl, hp1⟩ | ⟨rfl, hp1⟩
  · refine z_if_ne C dX6_ranks_5 (tgt := 14) (by decide) (by decide) (fun _ => ?_) (fun c2 => (by exfalso; omega))
    refine z_aload_n C dX6_ranks_14 0 rfl ?_
    refine z_iconst C dX6_ranks_15 ?_
    refine z_callVv C (c_X6_layRanks (zl X) μ v hq ho 0 0 (Or.inl ⟨rfl, rfl⟩)) yyX6_layRanks mlX6_241 (zRc_of (i := 31) C (by decide) rfl rfl) dX6_ranks_16 rfl rfl (Nat.le_of_ble_eq_true rfl) (by decide) (fun m3 hp3 => ?_)
    refine z_aload_n C dX6_ranks_19 0 rfl ?_
    refine z_getR C ffX6_71 dX6_ranks_20 (by decide) rfl rfl ?_
    refine z_iload_n C dX6_ranks_23 1 rfl ?_
    refine z_iald C dX6_ranks_24 (by decide) rfl (by omega) (by decide) (fun hr4 => ?_)
    rw [hp3.1 p (by omega) (by omega)]
    have hU := (sIt_b (v := v) (sIn_b ho 0) 25 p (by omega) (by omega)).1
    exact E dX6_ranks_25 (by omega) rfl (t_fin (P := zRf) (show tGot s p 0 = ((sIt v (sIn v 0) 25).1 p, s) by unfold tGot; (first | rw [hgv] | skip); repeat (first | rw [if_pos (by omega)] | rw [if_neg (by omega)])) (zRf_fr hs (fun a x _ => by rw [hp3.2 a (by omega)])) (fun a _ => by rw [hp3.2 a (by omega)]))
  · refine z_if_ne C dX6_ranks_5 (tgt := 14) (by decide) (by decide) (fun c5 => (by exfalso; omega)) (fun _ => ?_)
    refine z_aload_n C dX6_ranks_8 0 rfl ?_
    refine z_iconst C dX6_ranks_9 ?_
    refine z_callVi C (c_X6_no (zl X) μ 1 (by omega)) yyX6_no mlX6_128 (zRc_of (i := 31) C (by decide) rfl rfl) dX6_ranks_10 rfl rfl (Nat.le_of_ble_eq_true rfl) (by decide) (fun r6 m6 hr6 hp6 => ?_)
    rw [hp6.1]
    exact E dX6_ranks_13 (by decide) rfl (t_fin (P := zRf) (show tGot s p 0 = ((-1), pF s 1) by unfold tGot; (first | rw [hgv] | skip); repeat (first | rw [if_pos (by omega)] | rw [if_neg (by omega)])) (by rw [hp6.2]; exact zRf_F hs (by omega)) (fun a _ => by rw [hp6.2, zs_ne _ _ _ (by omega)]))
set_option maxHeartbeats 4000000 in
theorem c_X6_asked (l : Launch) (μ : zM) (s : zS) (hs : zRf μ s) (hso : sOK s) (p : Int) (hpr : zR p) : zMi l yX6_asked cX6_asked 2 (.int) 3 71 [.inr 31, .inl p] μ (fun (r : Int) (m : zM) => r = (tGot s p 1).1 ∧ zRf m (tGot s p 1).2 ∧ ∀ a, (a < 31 ∨ 48 ≤ a) → m a = μ a) := by
  refine zMi_of (own := RX6) (by decide +kernel) rfl (Nat.le_of_ble_eq_true rfl) ?_
  intro X hX C hrm E
  subst hX
  show zJ X 2 μ 0 [(0, .inr 31), (1, .inl p)] []
  obtain ⟨hq, hk, hi, hl, hm, hw, hf⟩ := id hs
  obtain ⟨ho, hok, hoi, hon, hot, hom, how⟩ := id hso
  generalize hgv : gV s = v at hq ho
  obtain ⟨hq1, hq2, hq3, hq4, hq5, hq6, hq7⟩ := id hq
  obtain ⟨ho1, ho2, ho3, ho4, ho5, ho6, ho7⟩ := id ho
  have hN := vN_ok ho
  refine z_aload_n C dX6_asked_0 0 rfl ?_
  refine z_iload_n C dX6_asked_1 1 rfl ?_
  refine z_callVi C (c_X6_isPerson (zl X) μ v hq ho p (by omega)) yyX6_isPerson mlX6_124 (zRc_of (i := 31) C (by decide) rfl rfl) dX6_asked_2 rfl rfl (Nat.le_of_ble_eq_true rfl) (by decide) (fun r1 m1 hr1 hp1 => ?_)
  obtain ⟨rfl, hp1⟩ := hp1
  rcases hp1 with ⟨rfl, hp1⟩ | ⟨rfl, hp1⟩
  · refine z_if_ne C dX6_asked_5 (tgt := 14) (by decide) (by decide) (fun _ => ?_) (fun c2 => (by exfalso; omega))
    refine z_aload_n C dX6_asked_14 0 rfl ?_
    refine z_iconst C dX6_asked_15 ?_
    refine z_callVv C (c_X6_layRanks (zl X) μ v hq ho 1 5 (Or.inr ⟨rfl, rfl⟩)) yyX6_layRanks mlX6_241 (zRc_of (i := 31) C (by decide) rfl rfl) dX6_asked_16 rfl rfl (Nat.le_of_ble_eq_true rfl) (by decide) (fun m3 hp3 => ?_)
    refine z_aload_n C dX6_asked_19 0 rfl ?_
    refine z_getR C ffX6_71 dX6_asked_20 (by decide) rfl rfl ?_
    refine z_iload_n C dX6_asked_23 1 rfl ?_
    refine z_iald C dX6_asked_24 (by decide) rfl (by omega) (by decide) (fun hr4 => ?_)
    rw [hp3.1 p (by omega) (by omega)]
    have hU := (sIt_b (v := v) (sIn_b ho 1) 25 p (by omega) (by omega)).1
    exact E dX6_asked_25 (by omega) rfl (t_fin (P := zRf) (show tGot s p 1 = ((sIt v (sIn v 1) 25).1 p, s) by unfold tGot; (first | rw [hgv] | skip); repeat (first | rw [if_pos (by omega)] | rw [if_neg (by omega)])) (zRf_fr hs (fun a x _ => by rw [hp3.2 a (by omega)])) (fun a _ => by rw [hp3.2 a (by omega)]))
  · refine z_if_ne C dX6_asked_5 (tgt := 14) (by decide) (by decide) (fun c5 => (by exfalso; omega)) (fun _ => ?_)
    refine z_aload_n C dX6_asked_8 0 rfl ?_
    refine z_iconst C dX6_asked_9 ?_
    refine z_callVi C (c_X6_no (zl X) μ 1 (by omega)) yyX6_no mlX6_128 (zRc_of (i := 31) C (by decide) rfl rfl) dX6_asked_10 rfl rfl (Nat.le_of_ble_eq_true rfl) (by decide) (fun r6 m6 hr6 hp6 => ?_)
    rw [hp6.1]
    exact E dX6_asked_13 (by decide) rfl (t_fin (P := zRf) (show tGot s p 1 = ((-1), pF s 1) by unfold tGot; (first | rw [hgv] | skip); repeat (first | rw [if_pos (by omega)] | rw [if_neg (by omega)])) (by rw [hp6.2]; exact zRf_F hs (by omega)) (fun a _ => by rw [hp6.2, zs_ne _ _ _ (by omega)]))
set_option maxHeartbeats 4000000 in
theorem c_X6_layCounts (l : Launch) (μ : zM) (v : zVw) (hq : zQ μ v) (ho : vOK v) (w : Int) (hw : 0 ≤ w ∧ w ≤ 3) : zMv l yX6_layCounts cX6_layCounts 7 6 137 [.inr 31, .inl w] μ (fun (m : zM) => (∀ p, 0 ≤ p → p < 10 → m 41 p = sVl v w p) ∧ ∀ x, (x < 38 ∨ 41 < x) → m x = μ x) := by
  refine zMv_of (own := RX6) (by decide +kernel) rfl (Nat.le_of_ble_eq_true rfl) ?_
  intro X hX C hrm E
  subst hX
  show zJ X 7 μ 0 [(0, .inr 31), (1, .inl w)] []
  obtain ⟨hq1, hq2, hq3, hq4, hq5, hq6, hq7⟩ := id hq
  obtain ⟨ho1, ho2, ho3, ho4, ho5, ho6, ho7⟩ := id ho
  have hN := vN_ok ho
  refine z_iconst C dX6_layCounts_0 ?_
  refine z_istore_n C dX6_layCounts_1 (by decide) (L' := [(0, _), (1, _), (2, _)]) rfl ?_
  have LP2 : ∀ (N2 : Nat) (p : Int) (ma : zM), (0 ≤ p) → (p ≤ 10) → (∀ x, 0 ≤ x → x < p → ma 41 x = 0) → (∀ x, ¬ x = 41 → ma x = μ x) → (11 - p).toNat < N2 → zJ X 7 ma 2 [(0, .inr 31), (1, .inl w), (2, .inl p)] [] := by
    intro N2
    induction N2 with
    | zero => intro p ma h2_0 h2_1 h2_2 h2_3 hN; exact absurd hN (Nat.not_lt_zero _)
    | succ N2 ih2 =>
      intro p ma h2_0 h2_1 h2_2 h2_3 hN2
      refine z_iload_n C dX6_layCounts_2 2 rfl ?_
      refine z_bipush C dX6_layCounts_3 (by decide) ?_
      refine z_icmp_ge C dX6_layCounts_5 (tgt := 21) (by decide) (by omega) (by decide) (fun c1 => ?_) (fun c1 => ?_)
      · refine z_iconst C dX6_layCounts_21 ?_
        refine z_istore_n C dX6_layCounts_22 (by decide) (L' := [(0, _), (1, _), (2, _)]) rfl ?_
        have LP23 : ∀ (N23 : Nat) (p : Int) (mb : zM), (0 ≤ p) → (p ≤ 10) → (∀ x, 0 ≤ x → x < 10 → mb 41 x = if x < p then sCc v w x else 0) → (∀ x, ¬ x = 41 → mb x = μ x) → (11 - p).toNat < N23 → zJ X 7 mb 23 [(0, .inr 31), (1, .inl w), (2, .inl p)] [] := by
          intro N23
          induction N23 with
          | zero => intro p mb h23_0 h23_1 h23_2 h23_3 hN; exact absurd hN (Nat.not_lt_zero _)
          | succ N23 ih23 =>
            intro p mb h23_0 h23_1 h23_2 h23_3 hN23
            have hqb : zQ mb v := (zQ_fr hq (fun x _ _ => by rw [h23_3 31 (by omega)]) (by rw [h23_3 32 (by omega)]) (by rw [h23_3 33 (by omega)]) (by rw [h23_3 34 (by omega)]))
            refine z_iload_n C dX6_layCounts_23 2 rfl ?_
            refine z_bipush C dX6_layCounts_24 (by decide) ?_
            refine z_icmp_ge C dX6_layCounts_26 (tgt := 123) (by decide) (by omega) (by decide) (fun c2 => ?_) (fun c2 => ?_)
            · refine z_iload_n C dX6_layCounts_123 1 rfl ?_
              refine z_iconst C dX6_layCounts_124 ?_
              refine z_icmp_eq C dX6_layCounts_125 (tgt := 129) (by decide) (by omega) (by decide) (fun c3 => ?_) (fun c3 => ?_)
              · have hw3 : w = 3 := by omega
                have hqb2 := hqb
                refine z_aload_n C dX6_layCounts_129 0 rfl ?_
                refine z_iconst C dX6_layCounts_130 ?_
                refine z_callVv C (c_X6_layRanks (zl X) mb v hqb ho 0 0 (Or.inl ⟨rfl, rfl⟩)) yyX6_layRanks mlX6_241 (zRc_of (i := 31) C (by decide) rfl rfl) dX6_layCounts_131 rfl rfl (Nat.le_of_ble_eq_true rfl) (by decide) (fun m4 hp4 => ?_)
                have hgr := hp4
                refine z_iconst C dX6_layCounts_134 ?_
                refine z_istore_n C dX6_layCounts_135 (by decide) (L' := [(0, _), (1, _), (2, _)]) rfl ?_
                have LP136 : ∀ (N136 : Nat) (p : Int) (me : zM), (0 ≤ p) → (p ≤ 10) → (∀ x, 0 ≤ x → x < 10 → me 41 x = if x < p then sVl v 3 x else sCc v 3 x) → (∀ x, (x < 38 ∨ 41 < x) → me x = μ x) → (∀ x, 0 ≤ x → x < 10 → me 40 x = (sIt v (sIn v 0) 25).1 x) → (11 - p).toNat < N136 → zJ X 7 me 136 [(0, .inr 31), (1, .inl w), (2, .inl p)] [] := by
                  intro N136
                  induction N136 with
                  | zero => intro p me h136_0 h136_1 h136_2 h136_3 h136_4 hN; exact absurd hN (Nat.not_lt_zero _)
                  | succ N136 ih136 =>
                    intro p me h136_0 h136_1 h136_2 h136_3 h136_4 hN136
                    have hgU := fun p0 p1 => (sIt_b (v := v) (sIn_b ho 0) 25 p p0 p1).1
                    refine z_iload_n C dX6_layCounts_136 2 rfl ?_
                    refine z_bipush C dX6_layCounts_137 (by decide) ?_
                    refine z_icmp_ge C dX6_layCounts_139 (tgt := 180) (by decide) (by omega) (by decide) (fun c5 => ?_) (fun c5 => ?_)
                    · exact E dX6_layCounts_180 ⟨(fun x x0 x1 => by rw [h136_2 x x0 x1, if_pos (by omega), hw3]), h136_3⟩
                    · refine z_aload_n C dX6_layCounts_142 0 rfl ?_
                      refine z_getR C ffX6_74 dX6_layCounts_143 (by decide) rfl rfl ?_
                      refine z_iload_n C dX6_layCounts_146 2 rfl ?_
                      refine z_dup2 C dX6_layCounts_147 ?_
                      refine z_iald C dX6_layCounts_148 (by decide) rfl (by omega) (by decide) (fun hr6 => ?_)
                      have hcb := sCc_b ho (w := 3) (p := p) (by omega)
                      rw [h136_2 p (by omega) (by omega), if_neg (by omega)]
                      refine z_aload_n C dX6_layCounts_149 0 rfl ?_
                      refine z_getR C ffX6_71 dX6_layCounts_150 (by decide) rfl rfl ?_
                      refine z_iload_n C dX6_layCounts_153 2 rfl ?_
                      refine z_iald C dX6_layCounts_154 (by decide) rfl (by omega) (by decide) (fun hr7 => ?_)
                      rw [h136_4 p (by omega) (by omega)]
                      have hg := hgU (by omega) (by omega)
                      refine z_if_ge C dX6_layCounts_155 (tgt := 162) (by decide) (by omega) (fun c8 => ?_) (fun c8 => ?_)
                      · refine z_iconst C dX6_layCounts_162 ?_
                        refine z_aload_n C dX6_layCounts_163 0 rfl ?_
                        refine z_getR C ffX6_71 dX6_layCounts_164 (by decide) rfl rfl ?_
                        refine z_iload_n C dX6_layCounts_167 2 rfl ?_
                        refine z_iald C dX6_layCounts_168 (by decide) rfl (by omega) (by decide) (fun hr9 => ?_)
                        rw [h136_4 p (by omega) (by omega)]
                        refine z_iconst C dX6_layCounts_169 ?_
                        refine z_irem C dX6_layCounts_170 (by omega) ?_
                        refine z_ishl C dX6_layCounts_171 ?_
                        rw [zshl_bit (by omega), zbit_m]
                        have hab := zand_b (sCc v 3 p) hcb.1 hcb.2 ((sIt v (sIn v 0) 25).1 p) (by omega) (by omega)
                        refine z_iand C dX6_layCounts_172 ?_
                        refine z_iast C dX6_layCounts_173 (by decide) rfl (by omega) (by decide) (by omega) ?_
                        refine z_mem (fun m10 em10 => ?_)
                        refine z_iinc C dX6_layCounts_174 2 rfl (by decide) (L' := [(0, _), (1, _), (2, _)]) rfl ?_
                        refine z_goto C dX6_layCounts_177 (tgt := 136) (by decide) ?_
                        exact ih136 _ m10 (by omega) (by omega) (fun x x0 x1 => by rw [em10, zs_at]; by_cases e : x = p; (rw [if_pos e, if_pos (by omega), e, sVl_3, if_neg (by omega)]); rw [if_neg e, h136_2 x x0 x1]; by_cases e2 : x < p; rw [if_pos e2, if_pos (by omega)]; rw [if_neg e2, if_neg (by omega)]) (fun x hx => by rw [em10, zs_ne _ _ _ (by omega)]; exact h136_3 x hx) (fun x x0 x1 => by rw [em10, zs_ne _ _ _ (by omega)]; exact h136_4 x x0 x1) (by omega)
                      · refine z_iconst C dX6_layCounts_158 ?_
                        refine z_goto C dX6_layCounts_159 (tgt := 172) (by decide) ?_
                        have hab := zand_b (sCc v 3 p) hcb.1 hcb.2 0 (by omega) (by omega)
                        have hab2 : 0 ≤ zand (sCc v 3 p) 0 ∧ zand (sCc v 3 p) 0 < 32 := by rw [zand_z]; omega
                        refine z_iand C dX6_layCounts_172 ?_
                        refine z_iast C dX6_layCounts_173 (by decide) rfl (by omega) (by decide) (by omega) ?_
                        refine z_mem (fun m11 em11 => ?_)
                        refine z_iinc C dX6_layCounts_174 2 rfl (by decide) (L' := [(0, _), (1, _), (2, _)]) rfl ?_
                        refine z_goto C dX6_layCounts_177 (tgt := 136) (by decide) ?_
                        exact ih136 _ m11 (by omega) (by omega) (fun x x0 x1 => by rw [em11, zs_at]; by_cases e : x = p; (rw [if_pos e, if_pos (by omega), e, sVl_3, if_pos (by omega), zand_z]); rw [if_neg e, h136_2 x x0 x1]; by_cases e2 : x < p; rw [if_pos e2, if_pos (by omega)]; rw [if_neg e2, if_neg (by omega)]) (fun x hx => by rw [em11, zs_ne _ _ _ (by omega)]; exact h136_3 x hx) (fun x x0 x1 => by rw [em11, zs_ne _ _ _ (by omega)]; exact h136_4 x x0 x1) (by omega)
                exact LP136 _ 0 m4 (by omega) (by omega) (fun x x0 x1 => by rw [if_neg (by omega), hgr.2 41 (by omega), h23_2 x x0 x1, if_pos (by omega), hw3]) (fun x hx => by rw [hgr.2 x (by omega), h23_3 x (by omega)]) hgr.1 (Nat.lt_succ_self _)
              · exact E dX6_layCounts_128 ⟨(fun x x0 x1 => by rw [h23_2 x x0 x1, if_pos (by omega), sVl_c (by omega)]), (fun x hx => h23_3 x (by omega))⟩
            · refine z_aload_n C dX6_layCounts_29 0 rfl ?_
              refine z_iload_n C dX6_layCounts_30 2 rfl ?_
              refine z_callVi C (c_X6_isPerson (zl X) mb v hqb ho p (by omega)) yyX6_isPerson mlX6_124 (zRc_of (i := 31) C (by decide) rfl rfl) dX6_layCounts_31 rfl rfl (Nat.le_of_ble_eq_true rfl) (by decide) (fun r12 m12 hr12 hp12 => ?_)
              obtain ⟨rfl, hp12⟩ := hp12
              rcases hp12 with ⟨rfl, hp12⟩ | ⟨rfl, hp12⟩
              · refine z_if_ne C dX6_layCounts_34 (tgt := 40) (by decide) (by decide) (fun _ => ?_) (fun c13 => (by exfalso; omega))
                refine z_aload_n C dX6_layCounts_40 0 rfl ?_
                refine z_iload_n C dX6_layCounts_41 2 rfl ?_
                refine z_callVi C (c_X6_yesesOf (zl X) mb v hqb ho p (by omega)) yyX6_yesesOf mlX6_223 (zRc_of (i := 31) C (by decide) rfl rfl) dX6_layCounts_42 rfl rfl (Nat.le_of_ble_eq_true rfl) (by decide) (fun r14 m14 hr14 hp14 => ?_)
                obtain ⟨rfl, hp14⟩ := hp14
                skip
                rw [hp14]
                have hsb : 0 ≤ sSl v p ∧ sSl v p < 32 := sSlN_b ho p 5
                refine z_istore_n C dX6_layCounts_45 (by decide) (L' := [(0, _), (1, _), (2, _), (3, _)]) rfl ?_
                have JP67 : ∀ (n : Int), (n = (if w = 1 then 3 else if w = 2 then 1 else 5)) →  zJ X 7 mb 67 [(0, .inr 31), (1, .inl w), (2, .inl p), (3, .inl (sSl v p)), (4, .inl n)] [] := by
                  intro n j67_0
                  have hnb : 1 ≤ n ∧ n ≤ 5 := by rw [j67_0]; split <;> (try split) <;> omega
                  refine z_iconst C dX6_layCounts_67 ?_
                  refine z_istore C dX6_layCounts_68 (by decide) (L' := [(0, _), (1, _), (2, _), (3, _), (4, _), (5, _)]) rfl ?_
                  have LP70 : ∀ (N70 : Nat) (y : Int) (j : Int) (mc : zM), (0 ≤ j) → (j ≤ n) → (y = sRst v p (sSl v p) j.toNat) → (mc 41 p = sLkN v p (sSl v p) j.toNat) → (∀ x, ¬ x = p → mc 41 x = mb 41 x) → (∀ x, ¬ x = 41 → mc x = mb x) → (6 - j).toNat < N70 → zJ X 7 mc 70 [(0, .inr 31), (1, .inl w), (2, .inl p), (3, .inl y), (4, .inl n), (5, .inl j)] [] := by
                    intro N70
                    induction N70 with
                    | zero => intro y j mc h70_0 h70_1 h70_2 h70_3 h70_4 h70_5 hN; exact absurd hN (Nat.not_lt_zero _)
                    | succ N70 ih70 =>
                      intro y j mc h70_0 h70_1 h70_2 h70_3 h70_4 h70_5 hN70
                      have hyb := sRst_b (v := v) (p := p) (s := sSl v p) (by omega) hsb j.toNat
                      rw [← h70_2] at hyb
                      have hlb := sLkN_b v (sSl v p) (p := p) (by omega) j.toNat
                      have hqc : zQ mc v := zQ_fr hqb (fun x _ _ => by rw [h70_5 31 (by omega)]) (h70_5 32 (by omega)) (h70_5 33 (by omega)) (h70_5 34 (by omega))
                      refine z_iload C dX6_layCounts_70 5 rfl ?_
                      refine z_iload C dX6_layCounts_72 4 rfl ?_
                      refine z_icmp_ge C dX6_layCounts_74 (tgt := 117) (by decide) (by omega) (by omega) (fun c15 => ?_) (fun c15 => ?_)
                      · refine z_iinc C dX6_layCounts_117 2 rfl (by decide) (L' := [(0, _), (1, _), (2, _), (3, _), (4, _), (5, _)]) rfl ?_
                        refine z_goto C dX6_layCounts_120 (tgt := 23) (by decide) ?_
                        refine z_sub [0, 1, 2] rfl ?_; exact ih23 _ mc (by omega) (by omega) (fun x x0 x1 => by by_cases e : x = p; (rw [e, if_pos (by omega), h70_3, sCc_n ho (by omega) j67_0 (by omega) (Or.inl (by omega))]); rw [h70_4 x e, h23_2 x x0 x1]; by_cases e2 : x < p; rw [if_pos e2, if_pos (by omega)]; rw [if_neg e2, if_neg (by omega)]) (fun x y => by rw [h70_5 x y]; exact h23_3 x y) (by omega)
                      · refine z_iload_n C dX6_layCounts_77 3 rfl ?_
                        refine z_if_eq C dX6_layCounts_78 (tgt := 117) (by decide) (by omega) (fun c16 => ?_) (fun c16 => ?_)
                        · refine z_iinc C dX6_layCounts_117 2 rfl (by decide) (L' := [(0, _), (1, _), (2, _), (3, _), (4, _), (5, _)]) rfl ?_
                          refine z_goto C dX6_layCounts_120 (tgt := 23) (by decide) ?_
                          refine z_sub [0, 1, 2] rfl ?_; exact ih23 _ mc (by omega) (by omega) (fun x x0 x1 => by by_cases e : x = p; (rw [e, if_pos (by omega), h70_3, sCc_n ho (by omega) j67_0 (by omega) (Or.inr (by rw [← h70_2]; omega))]); rw [h70_4 x e, h23_2 x x0 x1]; by_cases e2 : x < p; rw [if_pos e2, if_pos (by omega)]; rw [if_neg e2, if_neg (by omega)]) (fun x y => by rw [h70_5 x y]; exact h23_3 x y) (by omega)
                        · have hnx := sLkN_next (v := v) (p := p) (s := sSl v p) (by omega) hsb j.toNat (by rw [← h70_2]; omega)
                          refine z_aload_n C dX6_layCounts_81 0 rfl ?_
                          refine z_iload_n C dX6_layCounts_82 2 rfl ?_
                          refine z_iload_n C dX6_layCounts_83 3 rfl ?_
                          refine z_callVi C (c_X6_dearest (zl X) mc v hqc ho p y (by omega) hyb) yyX6_dearest mlX6_235 (zRc_of (i := 31) C (by decide) rfl rfl) dX6_layCounts_84 rfl rfl (Nat.le_of_ble_eq_true rfl) (by decide) (fun r17 m17 hr17 hp17 => ?_)
                          obtain ⟨rfl, hp17⟩ := hp17
                          have hro := hp17
                          rw [h70_2, if_neg hnx.1, ← h70_2] at hro
                          have hrb : 0 ≤ r17 ∧ r17 < 5 := by rw [hro, h70_2]; exact hnx.2.1
                          have hzo := zor_bit (sLkN v p (sSl v p) j.toNat) hlb.1 hlb.2 r17 (by omega) (by omega)
                          have hzd := zdel_b y hyb.1 hyb.2 r17 (by omega) (by omega)
                          refine z_istore C dX6_layCounts_87 (by decide) (L' := [(0, _), (1, _), (2, _), (3, _), (4, _), (5, _), (6, _)]) rfl ?_
                          refine z_aload_n C dX6_layCounts_89 0 rfl ?_
                          refine z_getR C ffX6_74 dX6_layCounts_90 (by decide) rfl rfl ?_
                          refine z_iload_n C dX6_layCounts_93 2 rfl ?_
                          refine z_dup2 C dX6_layCounts_94 ?_
                          refine z_iald C dX6_layCounts_95 (by decide) rfl (by omega) (by decide) (fun hr18 => ?_)
                          rw [h70_3]
                          refine z_iconst C dX6_layCounts_96 ?_
                          refine z_iload C dX6_layCounts_97 6 rfl ?_
                          refine z_ishl C dX6_layCounts_99 ?_
                          rw [zshl_bit hrb]
                          refine z_ior C dX6_layCounts_100 ?_
                          refine z_iast C dX6_layCounts_101 (by decide) rfl (by omega) (by decide) (by omega) ?_
                          refine z_mem (fun m19 em19 => ?_)
                          refine z_iload_n C dX6_layCounts_102 3 rfl ?_
                          refine z_iconst C dX6_layCounts_103 ?_
                          refine z_iload C dX6_layCounts_104 6 rfl ?_
                          refine z_ishl C dX6_layCounts_106 ?_
                          rw [zshl_bit hrb]
                          refine z_iconst C dX6_layCounts_107 ?_
                          refine z_ixor C dX6_layCounts_108 ?_
                          refine z_iand C dX6_layCounts_109 ?_
                          refine z_istore_n C dX6_layCounts_110 (by decide) (L' := [(0, _), (1, _), (2, _), (3, _), (4, _), (5, _), (6, _)]) rfl ?_
                          refine z_iinc C dX6_layCounts_111 5 rfl (by decide) (L' := [(0, _), (1, _), (2, _), (3, _), (4, _), (5, _), (6, _)]) rfl ?_
                          refine z_goto C dX6_layCounts_114 (tgt := 70) (by decide) ?_
                          refine z_sub [0, 1, 2, 3, 4, 5] rfl ?_; exact ih70 _ _ m19 (by omega) (by omega) (by rw [show (j + 1).toNat = j.toNat + 1 by omega, hnx.2.2.2.2, ← h70_2, ← hro]) (by rw [show (j + 1).toNat = j.toNat + 1 by omega, hnx.2.2.2.1, ← h70_2, ← hro, em19, zs_self]) (fun x e => by rw [em19, zs_ne2 _ _ _ e]; exact h70_4 x e) (fun x e => by rw [em19, zs_ne _ _ _ e]; exact h70_5 x e) (by omega)
                  exact LP70 _ _ 0 mb (by omega) (by omega) (zsub_0 _ hsb.1 hsb.2).1.symm (by rw [h23_2 p (by omega) (by omega), if_neg (by omega)]; rfl) (fun _ _ => rfl) (fun _ _ => rfl) (Nat.lt_succ_self _)
                refine z_iload_n C dX6_layCounts_46 1 rfl ?_
                refine z_iconst C dX6_layCounts_47 ?_
                refine z_icmp_ne C dX6_layCounts_48 (tgt := 55) (by decide) (by omega) (by decide) (fun c20 => ?_) (fun c20 => ?_)
                · refine z_iload_n C dX6_layCounts_55 1 rfl ?_
                  refine z_iconst C dX6_layCounts_56 ?_
                  refine z_icmp_ne C dX6_layCounts_57 (tgt := 64) (by decide) (by omega) (by decide) (fun c21 => ?_) (fun c21 => ?_)
                  · refine z_iconst C dX6_layCounts_64 ?_
                    refine z_istore C dX6_layCounts_65 (by decide) (L' := [(0, _), (1, _), (2, _), (3, _), (4, _)]) rfl ?_
                    exact JP67 _ (by repeat (first | rw [if_pos (by omega)] | rw [if_neg (by omega)]))
                  · refine z_iconst C dX6_layCounts_60 ?_
                    refine z_goto C dX6_layCounts_61 (tgt := 65) (by decide) ?_
                    refine z_istore C dX6_layCounts_65 (by decide) (L' := [(0, _), (1, _), (2, _), (3, _), (4, _)]) rfl ?_
                    exact JP67 _ (by repeat (first | rw [if_pos (by omega)] | rw [if_neg (by omega)]))
                · refine z_iconst C dX6_layCounts_51 ?_
                  refine z_goto C dX6_layCounts_52 (tgt := 65) (by decide) ?_
                  refine z_istore C dX6_layCounts_65 (by decide) (L' := [(0, _), (1, _), (2, _), (3, _), (4, _)]) rfl ?_
                  exact JP67 _ (by repeat (first | rw [if_pos (by omega)] | rw [if_neg (by omega)]))
              · refine z_if_ne C dX6_layCounts_34 (tgt := 40) (by decide) (by decide) (fun c22 => (by exfalso; omega)) (fun _ => ?_)
                refine z_goto C dX6_layCounts_37 (tgt := 117) (by decide) ?_
                refine z_iinc C dX6_layCounts_117 2 rfl (by decide) (L' := [(0, _), (1, _), (2, _)]) rfl ?_
                refine z_goto C dX6_layCounts_120 (tgt := 23) (by decide) ?_
                exact ih23 _ mb (by omega) (by omega) (fun x x0 x1 => by by_cases e : x = p; (rw [e, if_pos (by omega), sCc_0 ho (by omega) (by omega), h23_2 p (by omega) (by omega), if_neg (by omega)]); rw [h23_2 x x0 x1]; by_cases e2 : x < p; rw [if_pos e2, if_pos (by omega)]; rw [if_neg e2, if_neg (by omega)]) h23_3 (by omega)
        exact LP23 _ 0 ma (by omega) (by omega) (fun x x0 x1 => by rw [if_neg (by omega)]; exact h2_2 x x0 (by omega)) h2_3 (Nat.lt_succ_self _)
      · refine z_aload_n C dX6_layCounts_8 0 rfl ?_
        refine z_getR C ffX6_74 dX6_layCounts_9 (by decide) rfl rfl ?_
        refine z_iload_n C dX6_layCounts_12 2 rfl ?_
        refine z_iconst C dX6_layCounts_13 ?_
        refine z_iast C dX6_layCounts_14 (by decide) rfl (by omega) (by decide) (by decide) ?_
        refine z_mem (fun m23 em23 => ?_)
        refine z_iinc C dX6_layCounts_15 2 rfl (by decide) (L' := [(0, _), (1, _), (2, _)]) rfl ?_
        refine z_goto C dX6_layCounts_18 (tgt := 2) (by decide) ?_
        exact ih2 _ m23 (by omega) (by omega) (fun x x0 x1 => by rw [em23]; exact zs_upto (f := fun _ => 0) h2_2 rfl x x0 x1) (fun x y => by rw [em23, zs_ne _ _ _ y]; exact h2_3 x y) (by omega)
  exact LP2 _ 0 μ (by omega) (by omega) (fun x x0 x1 => by omega) (fun _ _ => rfl) (Nat.lt_succ_self _)
set_option maxHeartbeats 4000000 in
theorem c_X6_pairs (l : Launch) (μ : zM) (s : zS) (hs : zRf μ s) (hso : sOK s) (p : Int) (hpr : zR p) : zMi l yX6_pairs cX6_pairs 2 (.int) 7 163 [.inr 31, .inl p] μ (fun (r : Int) (m : zM) => r = (tPairs s p).1 ∧ zRf m (tPairs s p).2 ∧ ∀ a, (a < 31 ∨ 48 ≤ a) → m a = μ a) := by
  refine zMi_of (own := RX6) (by decide +kernel) rfl (Nat.le_of_ble_eq_true rfl) ?_
  intro X hX C hrm E
  subst hX
  show zJ X 2 μ 0 [(0, .inr 31), (1, .inl p)] []
  obtain ⟨hq, hk, hi, hl, hm, hw, hf⟩ := id hs
  obtain ⟨ho, hok, hoi, hon, hot, hom, how⟩ := id hso
  generalize hgv : gV s = v at hq ho
  obtain ⟨hq1, hq2, hq3, hq4, hq5, hq6, hq7⟩ := id hq
  obtain ⟨ho1, ho2, ho3, ho4, ho5, ho6, ho7⟩ := id ho
  have hN := vN_ok ho
  refine z_iload_n C dX6_pairs_0 1 rfl ?_
  refine z_iconst C dX6_pairs_1 ?_
  refine z_icmp_eq C dX6_pairs_2 (tgt := 19) (by decide) (by omega) (by decide) (fun c1 => ?_) (fun c1 => ?_)
  · refine z_aload_n C dX6_pairs_19 0 rfl ?_
    refine z_aload_n C dX6_pairs_20 0 rfl ?_
    refine z_getI C ffX6_22 dX6_pairs_21 (by decide) rfl rfl 4 rfl (fun hr2 => ?_)
    rw [hq5]
    refine z_callVv C (c_X6_layCounts (zl X) μ v hq ho (vW v) (by omega)) yyX6_layCounts mlX6_244 (zRc_of (i := 31) C (by decide) rfl rfl) dX6_pairs_24 rfl rfl (Nat.le_of_ble_eq_true rfl) (by decide) (fun m3 hp3 => ?_)
    refine z_iload_n C dX6_pairs_27 1 rfl ?_
    refine z_if_ge C dX6_pairs_28 (tgt := 39) (by decide) (by omega) (fun c4 => (by exfalso; omega)) (fun _ => ?_)
    refine z_aload_n C dX6_pairs_31 0 rfl ?_
    refine z_iconst C dX6_pairs_32 ?_
    refine z_callVi C (c_X6_allPairs (zl X) m3 v (zQ_fr hq (fun x _ _ => by rw [hp3.2 31 (by omega)]) (hp3.2 32 (by omega)) (hp3.2 33 (by omega)) (hp3.2 34 (by omega))) ho (sVl v (vW v)) hp3.1 (sVl_no ho (vW v)) 0 (by omega)) yyX6_allPairs mlX6_247 (zRc_of (i := 31) C (by decide) rfl rfl) dX6_pairs_33 rfl rfl (Nat.le_of_ble_eq_true rfl) (by decide) (fun r5 m5 hr5 hp5 => ?_)
    obtain ⟨rfl, hp5⟩ := hp5
    have hX : r5 = sPr v (vW v) := by rw [hp5]; exact sAp_p ho (sVl_no ho _)
    rw [hX]
    have hU := sPr_b ho (vW v)
    refine z_goto C dX6_pairs_36 (tgt := 44) (by decide) ?_
    exact E dX6_pairs_44 (by omega) rfl (t_fin (P := zRf) (show tPairs s p = ((sPr v (vW v)), s) by unfold tPairs; (first | rw [hgv] | skip); repeat (first | rw [if_pos (by omega)] | rw [if_neg (by omega)])) (zRf_fr hs (fun a x _ => by rw [hp3.2 a (by omega)])) (fun a _ => by rw [hp3.2 a (by omega)]))
  · refine z_aload_n C dX6_pairs_5 0 rfl ?_
    refine z_iload_n C dX6_pairs_6 1 rfl ?_
    refine z_callVi C (c_X6_isPerson (zl X) μ v hq ho p (by omega)) yyX6_isPerson mlX6_124 (zRc_of (i := 31) C (by decide) rfl rfl) dX6_pairs_7 rfl rfl (Nat.le_of_ble_eq_true rfl) (by decide) (fun r6 m6 hr6 hp6 => ?_)
    obtain ⟨rfl, hp6⟩ := hp6
    rcases hp6 with ⟨rfl, hp6⟩ | ⟨rfl, hp6⟩
    · refine z_if_ne C dX6_pairs_10 (tgt := 19) (by decide) (by decide) (fun _ => ?_) (fun c7 => (by exfalso; omega))
      refine z_aload_n C dX6_pairs_19 0 rfl ?_
      refine z_aload_n C dX6_pairs_20 0 rfl ?_
      refine z_getI C ffX6_22 dX6_pairs_21 (by decide) rfl rfl 4 rfl (fun hr8 => ?_)
      rw [hq5]
      refine z_callVv C (c_X6_layCounts (zl X) μ v hq ho (vW v) (by omega)) yyX6_layCounts mlX6_244 (zRc_of (i := 31) C (by decide) rfl rfl) dX6_pairs_24 rfl rfl (Nat.le_of_ble_eq_true rfl) (by decide) (fun m9 hp9 => ?_)
      refine z_iload_n C dX6_pairs_27 1 rfl ?_
      refine z_if_ge C dX6_pairs_28 (tgt := 39) (by decide) (by omega) (fun _ => ?_) (fun c10 => (by exfalso; omega))
      refine z_aload_n C dX6_pairs_39 0 rfl ?_
      refine z_iload_n C dX6_pairs_40 1 rfl ?_
      refine z_callVi C (c_X6_pairsOf (zl X) m9 v (zQ_fr hq (fun x _ _ => by rw [hp9.2 31 (by omega)]) (hp9.2 32 (by omega)) (hp9.2 33 (by omega)) (hp9.2 34 (by omega))) ho (sVl v (vW v)) hp9.1 (sVl_no ho (vW v)) p (by omega)) yyX6_pairsOf mlX6_250 (zRc_of (i := 31) C (by decide) rfl rfl) dX6_pairs_41 rfl rfl (Nat.le_of_ble_eq_true rfl) (by decide) (fun r11 m11 hr11 hp11 => ?_)
      obtain ⟨rfl, hp11⟩ := hp11
      rw [hp11]
      have hU : 0 ≤ sPb (sVl v (vW v)) p ∧ sPb (sVl v (vW v)) p < 32 := sPbN_b _ p 5 (by omega)
      exact E dX6_pairs_44 (by omega) rfl (t_fin (P := zRf) (show tPairs s p = ((sPb (sVl v (vW v)) p), s) by unfold tPairs; (first | rw [hgv] | skip); repeat (first | rw [if_pos (by omega)] | rw [if_neg (by omega)])) (zRf_fr hs (fun a x _ => by rw [hp9.2 a (by omega)])) (fun a _ => by rw [hp9.2 a (by omega)]))
    · refine z_if_ne C dX6_pairs_10 (tgt := 19) (by decide) (by decide) (fun c12 => (by exfalso; omega)) (fun _ => ?_)
      refine z_aload_n C dX6_pairs_13 0 rfl ?_
      refine z_iconst C dX6_pairs_14 ?_
      refine z_callVi C (c_X6_no (zl X) μ 1 (by omega)) yyX6_no mlX6_128 (zRc_of (i := 31) C (by decide) rfl rfl) dX6_pairs_15 rfl rfl (Nat.le_of_ble_eq_true rfl) (by decide) (fun r13 m13 hr13 hp13 => ?_)
      rw [hp13.1]
      exact E dX6_pairs_18 (by decide) rfl (t_fin (P := zRf) (show tPairs s p = ((-1), pF s 1) by unfold tPairs; (first | rw [hgv] | skip); repeat (first | rw [if_pos (by omega)] | rw [if_neg (by omega)])) (by rw [hp13.2]; exact zRf_F hs (by omega)) (fun a _ => by rw [hp13.2, zs_ne _ _ _ (by omega)]))
set_option maxHeartbeats 4000000 in
theorem c_X6_glad (l : Launch) (μ : zM) (s : zS) (hs : zRf μ s) (hso : sOK s) (w k : Int) (hwr : zR w) (hkr : zR k) : zMi l yX6_glad cX6_glad 3 (.int) 7 163 [.inr 31, .inl w, .inl k] μ (fun (r : Int) (m : zM) => r = (tGlad s w k).1 ∧ zRf m (tGlad s w k).2 ∧ ∀ a, (a < 31 ∨ 48 ≤ a) → m a = μ a) := by
  refine zMi_of (own := RX6) (by decide +kernel) rfl (Nat.le_of_ble_eq_true rfl) ?_
  intro X hX C hrm E
  subst hX
  show zJ X 3 μ 0 [(0, .inr 31), (1, .inl w), (2, .inl k)] []
  obtain ⟨hq, hk, hi, hl, hm, hw, hf⟩ := id hs
  obtain ⟨ho, hok, hoi, hon, hot, hom, how⟩ := id hso
  generalize hgv : gV s = v at hq ho
  obtain ⟨hq1, hq2, hq3, hq4, hq5, hq6, hq7⟩ := id hq
  obtain ⟨ho1, ho2, ho3, ho4, ho5, ho6, ho7⟩ := id ho
  have hN := vN_ok ho
  refine z_aload_n C dX6_glad_0 0 rfl ?_
  refine z_iload_n C dX6_glad_1 1 rfl ?_
  refine z_iconst C dX6_glad_2 ?_
  refine z_iconst C dX6_glad_3 ?_
  refine z_callVi C (c_X6_in (zl X) μ w 0 3 (by omega) (by omega) (by omega)) yyX6_in mlX6_117 (zRc_of (i := 31) C (by decide) rfl rfl) dX6_glad_4 rfl rfl (Nat.le_of_ble_eq_true rfl) (by decide) (fun r1 m1 hr1 hp1 => ?_)
  obtain ⟨rfl, hp1⟩ := hp1
  rcases hp1 with ⟨rfl, hp1⟩ | ⟨rfl, hp1⟩
  · refine z_if_eq C dX6_glad_7 (tgt := 20) (by decide) (by decide) (fun c2 => (by exfalso; omega)) (fun _ => ?_)
    refine z_aload_n C dX6_glad_10 0 rfl ?_
    refine z_iload_n C dX6_glad_11 2 rfl ?_
    refine z_iconst C dX6_glad_12 ?_
    refine z_iconst C dX6_glad_13 ?_
    refine z_callVi C (c_X6_in (zl X) μ k 0 1 (by omega) (by omega) (by omega)) yyX6_in mlX6_117 (zRc_of (i := 31) C (by decide) rfl rfl) dX6_glad_14 rfl rfl (Nat.le_of_ble_eq_true rfl) (by decide) (fun r3 m3 hr3 hp3 => ?_)
    obtain ⟨rfl, hp3⟩ := hp3
    rcases hp3 with ⟨rfl, hp3⟩ | ⟨rfl, hp3⟩
    · refine z_if_ne C dX6_glad_17 (tgt := 27) (by decide) (by decide) (fun _ => ?_) (fun c4 => (by exfalso; omega))
      refine z_aload_n C dX6_glad_27 0 rfl ?_
      refine z_iload_n C dX6_glad_28 1 rfl ?_
      refine z_callVv C (c_X6_layCounts (zl X) μ v hq ho w (by omega)) yyX6_layCounts mlX6_244 (zRc_of (i := 31) C (by decide) rfl rfl) dX6_glad_29 rfl rfl (Nat.le_of_ble_eq_true rfl) (by decide) (fun m5 hp5 => ?_)
      refine z_aload_n C dX6_glad_32 0 rfl ?_
      refine z_iload_n C dX6_glad_33 2 rfl ?_
      refine z_callVi C (c_X6_allPairs (zl X) m5 v (zQ_fr hq (fun x _ _ => by rw [hp5.2 31 (by omega)]) (hp5.2 32 (by omega)) (hp5.2 33 (by omega)) (hp5.2 34 (by omega))) ho (sVl v w) hp5.1 (sVl_no ho w) k (by omega)) yyX6_allPairs mlX6_247 (zRc_of (i := 31) C (by decide) rfl rfl) dX6_glad_34 rfl rfl (Nat.le_of_ble_eq_true rfl) (by decide) (fun r6 m6 hr6 hp6 => ?_)
      obtain ⟨rfl, hp6⟩ := hp6
      have hUa := sPr_b ho w
      have hUb : 0 ≤ sGlad v (sPb (sVl v w)) ∧ sGlad v (sPb (sVl v w)) ≤ 450 := sGl_b ho _ 5 (by omega)
      have hX : r6 = if k = 0 then sPr v w else sGlad v (sPb (sVl v w)) := by
        rw [hp6]
        rcases (by omega : k = 0 ∨ k = 1) with e | e
        · rw [e, if_pos rfl]; exact sAp_p ho (sVl_no ho _)
        · rw [e, if_neg (by omega)]; exact sAp_g ho (sVl_no ho _)
      have hXb : 0 ≤ r6 ∧ r6 ≤ 450 := by rw [hX]; split <;> omega
      exact E dX6_glad_37 (by omega) rfl (t_fin (P := zRf) (show tGlad s w k = (r6, s) by unfold tGlad; (first | rw [hgv] | skip); rw [if_pos (by omega), hX]; split <;> rfl) (zRf_fr hs (fun a x _ => by rw [hp5.2 a (by omega)])) (fun a _ => by rw [hp5.2 a (by omega)]))
    · refine z_if_ne C dX6_glad_17 (tgt := 27) (by decide) (by decide) (fun c7 => (by exfalso; omega)) (fun _ => ?_)
      refine z_aload_n C dX6_glad_20 0 rfl ?_
      refine z_bipush C dX6_glad_21 (by decide) ?_
      refine z_callVi C (c_X6_no (zl X) μ 2 (by omega)) yyX6_no mlX6_128 (zRc_of (i := 31) C (by decide) rfl rfl) dX6_glad_23 rfl rfl (Nat.le_of_ble_eq_true rfl) (by decide) (fun r8 m8 hr8 hp8 => ?_)
      rw [hp8.1]
      exact E dX6_glad_26 (by decide) rfl (t_fin (P := zRf) (show tGlad s w k = ((-2), pF s 2) by unfold tGlad; (first | rw [hgv] | skip); repeat (first | rw [if_pos (by omega)] | rw [if_neg (by omega)])) (by rw [hp8.2]; exact zRf_F hs (by omega)) (fun a _ => by rw [hp8.2, zs_ne _ _ _ (by omega)]))
  · refine z_if_eq C dX6_glad_7 (tgt := 20) (by decide) (by decide) (fun _ => ?_) (fun c9 => (by exfalso; omega))
    refine z_aload_n C dX6_glad_20 0 rfl ?_
    refine z_bipush C dX6_glad_21 (by decide) ?_
    refine z_callVi C (c_X6_no (zl X) μ 2 (by omega)) yyX6_no mlX6_128 (zRc_of (i := 31) C (by decide) rfl rfl) dX6_glad_23 rfl rfl (Nat.le_of_ble_eq_true rfl) (by decide) (fun r10 m10 hr10 hp10 => ?_)
    rw [hp10.1]
    exact E dX6_glad_26 (by decide) rfl (t_fin (P := zRf) (show tGlad s w k = ((-2), pF s 2) by unfold tGlad; (first | rw [hgv] | skip); repeat (first | rw [if_pos (by omega)] | rw [if_neg (by omega)])) (by rw [hp10.2]; exact zRf_F hs (by omega)) (fun a _ => by rw [hp10.2, zs_ne _ _ _ (by omega)]))
