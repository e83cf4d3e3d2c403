/-! contracts: EightMinutes -/
theorem sFl_b {v : zVw} (ho : vOK v) {p k : Int} (hk : 0 ≤ k ∧ k < 5) : -4 ≤ sFl v p k ∧ sFl v p k ≤ 999 := by
  unfold sFl
  split
  · omega
  · have h1 := sPar_U ho (p := p) (k := k)
    have h2 := sFeel_b ho hk (h1.resolve_left (by assumption)).2.2.2
    omega
theorem sTxt_b {tx : Int → Int} {n : Int} : ∀ (f : Nat) (p : Int), 0 ≤ p → p ≤ n → 0 ≤ (sTxt tx n f p).2 ∧ (sTxt tx n f p).2 ≤ n := by
  intro f
  induction f with
  | zero => intro p h0 h1; exact ⟨h0, h1⟩
  | succ f ih =>
    intro p h0 h1
    have h2 : 0 ≤ (sSta tx n p).2 ∧ (sSta tx n p).2 ≤ n := by
      unfold sSta
      split
      · have := sScn_ge tx n (zFm (tx p)) (zLn (zFm (tx p))).toNat (p + 1) 0
        have := sScn_le tx n (zFm (tx p)) (zLn (zFm (tx p))).toNat (p + 1) 0 (by omega)
        omega
      · exact ⟨h0, h1⟩
    rw [sTxt]
    split
    · split
      · exact ih _ h2.1 h2.2
      · exact h2
    · exact ⟨h0, h1⟩
theorem sBad_b (tx : Int → Int) {n : Int} (hn : 0 ≤ n ∧ n ≤ 96) : -9 ≤ sBad tx n ∧ sBad tx n ≤ 96 := by
  unfold sBad
  have := sTxt_b (tx := tx) (n := n) n.toNat 0 (by omega) (by omega)
  split
  · omega
  · split <;> omega
theorem sCar_bF (tx : Int → Int) {n : Int} : ∀ (f : Nat) (p : Int) (w : zVw), 0 ≤ p → (sCar tx n f p w).1 = -9 ∨ (0 ≤ (sCar tx n f p w).1 ∧ (sCar tx n f p w).1 < n) := by
  intro f
  induction f with
  | zero => intro p w _; exact Or.inl rfl
  | succ f ih =>
    intro p w h0
    have h2 : 0 ≤ (sSta tx n p).2 := by
      unfold sSta
      split
      · have := sScn_ge tx n (zFm (tx p)) (zLn (zFm (tx p))).toNat (p + 1) 0
        omega
      · exact h0
    rw [sCar]
    split
    · split
      · exact ih _ _ h2
      · right; show 0 ≤ p ∧ p < n; omega
    · exact Or.inl rfl
theorem sCar_b (tx : Int → Int) {n : Int} (hn : 0 ≤ n ∧ n ≤ 96) (v : zVw) : -9 ≤ (sCar tx n n.toNat 0 v).1 ∧ (sCar tx n n.toNat 0 v).1 ≤ 96 := by
  have := sCar_bF tx (n := n) n.toNat 0 v (by omega)
  omega
set_option maxHeartbeats 4000000 in
theorem c_X5_refuse (l : Launch) (μ : zM) (k : Int) (hk : 1 ≤ k ∧ k ≤ 6) : zMi l yX5_refuse cX5_refuse 2 (.int) 0 0 [.inr 0, .inl (-k)] μ (fun (r : Int) (m : zM) => r = -k ∧ m = zs μ 30 k (zw (μ 30 k + 1))) := by
  refine zMi_of (own := RX5) (by decide +kernel) rfl (Nat.le_of_ble_eq_true rfl) ?_
  intro X hX C hrm E
  subst hX
  show zJ X 2 μ 0 [(0, .inr 0), (1, .inl (-k))] []
  refine z_iload_n C dX5_refuse_0 1 rfl ?_
  refine z_if_ge C dX5_refuse_1 (tgt := 25) (by decide) (by omega) (fun c1 => (by exfalso; omega)) (fun _ => ?_)
  refine z_iload_n C dX5_refuse_4 1 rfl ?_
  refine z_aload_n C dX5_refuse_5 0 rfl ?_
  refine z_getR C ffX5_62 dX5_refuse_6 (by decide) rfl rfl ?_
  refine z_alen C dX5_refuse_9 (by decide) rfl 7 rfl ?_
  refine z_ineg C dX5_refuse_10 ?_
  refine z_icmp_le C dX5_refuse_11 (tgt := 25) (by decide) (by omega) (by omega) (fun c2 => (by exfalso; omega)) (fun _ => ?_)
  refine z_aload_n C dX5_refuse_14 0 rfl ?_
  refine z_getR C ffX5_62 dX5_refuse_15 (by decide) rfl rfl ?_
  refine z_iload_n C dX5_refuse_18 1 rfl ?_
  refine z_ineg C dX5_refuse_19 ?_
  rw [show -(-k) = k by omega]
  refine z_dup2 C dX5_refuse_20 ?_
  refine z_iald C dX5_refuse_21 (by decide) rfl (by omega) (by decide) (fun hr3 => ?_)
  refine z_iconst C dX5_refuse_22 ?_
  refine z_iadd C dX5_refuse_23 ?_
  refine z_iastw C dX5_refuse_24 (by decide) rfl (by omega) (by decide) ?_
  refine z_mem (fun m4 em4 => ?_)
  refine z_iload_n C dX5_refuse_25 1 rfl ?_
  exact E dX5_refuse_26 (by omega) rfl ⟨rfl, (by assumption)⟩
set_option maxHeartbeats 4000000 in
theorem c_X5_letter (l : Launch) (μ : zM) (s : zS) (hs : zCl μ s) (hso : sOK s) (c : Int) (hc : zR c) : zMi l yX5_letter cX5_letter 2 (.int) 2 41 [.inr 0, .inl c] μ (fun (r : Int) (m : zM) => r = (tLetter s c).1 ∧ zCl m (tLetter s c).2 ∧ ∀ a, 31 ≤ a → a < 48 → m a = μ a) := by
  refine zMi_of (own := RX5) (by decide +kernel) rfl (Nat.le_of_ble_eq_true rfl) ?_
  intro X hX C hrm E
  subst hX
  show zJ X 2 μ 0 [(0, .inr 0), (1, .inl c)] []
  obtain ⟨hv, hk, hi, hl, hm, hw, hf⟩ := id hs
  obtain ⟨ho, hok, hoi, hon, hot, hom, how⟩ := id hso
  generalize hgv : gV s = v at hv ho
  obtain ⟨hv1, hv2, hv3, hv4, hv5, hv6, hv7⟩ := id hv
  obtain ⟨ho1, ho2, ho3, ho4, ho5, ho6, ho7⟩ := id ho
  have hN := vN_ok ho
  refine z_iload_n C dX5_letter_0 1 rfl ?_
  refine z_if_ge C dX5_letter_1 (tgt := 11) (by decide) (by omega) (fun c1 => ?_) (fun c1 => ?_)
  · refine z_iload_n C dX5_letter_11 1 rfl ?_
    refine z_sipush C dX5_letter_12 (by decide) ?_
    refine z_icmp_gt C dX5_letter_15 (tgt := 28) (by decide) (by omega) (by decide) (fun c2 => ?_) (fun c2 => ?_)
    · refine z_aload_n C dX5_letter_28 0 rfl ?_
      refine z_bipush C dX5_letter_29 (by decide) ?_
      refine z_callVi C (c_X5_refuse (zl X) μ 6 (by omega)) yyX5_refuse mlX5_65 (zRc_of (i := 0) C (by decide) rfl rfl) dX5_letter_31 rfl rfl (Nat.le_of_ble_eq_true rfl) (by decide) (fun r3 m3 hr3 hp3 => ?_)
      rw [hp3.1]
      exact E dX5_letter_34 (by decide) rfl (t_fin (P := zCl) (show tLetter s c = ((-6), (pF s 6)) by unfold tLetter; (first | rw [hgv] | skip); repeat (first | rw [if_pos (by omega)] | rw [if_neg (by omega)])) (by rw [hp3.2]; exact zCl_F hs (by omega)) (fun a _ _ => by rw [hp3.2, zs_ne _ _ _ (by omega)]))
    · refine z_aload_n C dX5_letter_18 0 rfl ?_
      refine z_getR C ffX5_29 dX5_letter_19 (by decide) rfl rfl ?_
      refine z_callVi C (c_X3_isFull (zl X) μ (gT s) (gN s) hl) yyX3_isFull mlX5_69 (zRc_of (i := 16) C (by decide) rfl rfl) dX5_letter_22 rfl rfl (Nat.le_of_ble_eq_true rfl) (by decide) (fun r4 m4 hr4 hp4 => ?_)
      obtain ⟨rfl, hp4⟩ := hp4
      rcases hp4 with ⟨rfl, hp4⟩ | ⟨rfl, hp4⟩
      · refine z_if_eq C dX5_letter_25 (tgt := 35) (by decide) (by decide) (fun c5 => (by exfalso; omega)) (fun _ => ?_)
        refine z_aload_n C dX5_letter_28 0 rfl ?_
        refine z_bipush C dX5_letter_29 (by decide) ?_
        refine z_callVi C (c_X5_refuse (zl X) μ 6 (by omega)) yyX5_refuse mlX5_65 (zRc_of (i := 0) C (by decide) rfl rfl) dX5_letter_31 rfl rfl (Nat.le_of_ble_eq_true rfl) (by decide) (fun r6 m6 hr6 hp6 => ?_)
        rw [hp6.1]
        exact E dX5_letter_34 (by decide) rfl (t_fin (P := zCl) (show tLetter s c = ((-6), (pF s 6)) by unfold tLetter; (first | rw [hgv] | skip); repeat (first | rw [if_pos (by omega)] | rw [if_neg (by omega)])) (by rw [hp6.2]; exact zCl_F hs (by omega)) (fun a _ _ => by rw [hp6.2, zs_ne _ _ _ (by omega)]))
      · refine z_if_eq C dX5_letter_25 (tgt := 35) (by decide) (by decide) (fun _ => ?_) (fun c7 => (by exfalso; omega))
        refine z_aload_n C dX5_letter_35 0 rfl ?_
        refine z_getR C ffX5_29 dX5_letter_36 (by decide) rfl rfl ?_
        refine z_iload_n C dX5_letter_39 1 rfl ?_
        refine z_callVi C (c_X3_add (zl X) μ (gT s) (gN s) hl c (by omega) (by omega)) yyX3_add mlX5_73 (zRc_of (i := 16) C (by decide) rfl rfl) dX5_letter_40 rfl rfl (Nat.le_of_ble_eq_true rfl) (by decide) (fun r8 m8 hr8 hp8 => ?_)
        rw [hp8.1]
        exact E dX5_letter_43 (by omega) rfl (t_fin (P := zCl) (show tLetter s c = (gN s + 1, pT s c) by unfold tLetter; (first | rw [hgv] | skip); repeat (first | rw [if_pos (by omega)] | rw [if_neg (by omega)])) (by rw [hp8.2]; exact zCl_T hs (by omega) (by omega)) (fun a _ _ => by rw [hp8.2, zs_ne _ _ _ (by omega), zs_ne _ _ _ (by omega)]))
  · refine z_aload_n C dX5_letter_4 0 rfl ?_
    refine z_bipush C dX5_letter_5 (by decide) ?_
    refine z_callVi C (c_X5_refuse (zl X) μ 4 (by omega)) yyX5_refuse mlX5_65 (zRc_of (i := 0) C (by decide) rfl rfl) dX5_letter_7 rfl rfl (Nat.le_of_ble_eq_true rfl) (by decide) (fun r9 m9 hr9 hp9 => ?_)
    rw [hp9.1]
    exact E dX5_letter_10 (by decide) rfl (t_fin (P := zCl) (show tLetter s c = ((-4), (pF s 4)) by unfold tLetter; (first | rw [hgv] | skip); repeat (first | rw [if_pos (by omega)] | rw [if_neg (by omega)])) (by rw [hp9.2]; exact zCl_F hs (by omega)) (fun a _ _ => by rw [hp9.2, zs_ne _ _ _ (by omega)]))
set_option maxHeartbeats 4000000 in
theorem c_X5_evening (l : Launch) (μ : zM) (s : zS) (hs : zCl μ s) (hso : sOK s) : zMi l yX5_evening cX5_evening 4 (.int) 7 156 [.inr 0] μ (fun (r : Int) (m : zM) => r = (tEvening s).1 ∧ zCl m (tEvening s).2 ∧ ∀ a, 31 ≤ a → a < 48 → m a = μ a) := by
  refine zMi_of (own := RX5) (by decide +kernel) rfl (Nat.le_of_ble_eq_true rfl) ?_
  intro X hX C hrm E
  subst hX
  show zJ X 4 μ 0 [(0, .inr 0)] []
  obtain ⟨hv, hk, hi, hl, hm, hw, hf⟩ := id hs
  obtain ⟨ho, hok, hoi, hon, hot, hom, how⟩ := id hso
  generalize hgv : gV s = v at hv ho
  obtain ⟨hv1, hv2, hv3, hv4, hv5, hv6, hv7⟩ := id hv
  obtain ⟨ho1, ho2, ho3, ho4, ho5, ho6, ho7⟩ := id ho
  have hN := vN_ok ho
  have hbb := sBad_b (gT s) hon
  have hev : sEv s = sCar (gT s) (gN s) (gN s).toNat 0 v := by unfold sEv; rw [hgv]
  have heb := sCar_b (gT s) hon v
  rw [← hev] at heb
  have hcb : 0 ≤ sCnt s ∧ sCnt s ≤ 1 * ((gN s).toNat : Int) := zSum_b (f := fun i => if gT s i = 59 then 1 else 0) (c := 1) _ (fun j _ _ => by show 0 ≤ (if gT s j = 59 then (1 : Int) else 0) ∧ (if gT s j = 59 then (1 : Int) else 0) ≤ 1; split <;> omega)
  refine z_aload_n C dX5_evening_0 0 rfl ?_
  refine z_getR C ffX5_29 dX5_evening_1 (by decide) rfl rfl ?_
  refine z_callVi C (c_X3_firstBadLetter (zl X) μ (gT s) (gN s) hl) yyX3_firstBadLetter mlX5_76 (zRc_of (i := 16) C (by decide) rfl rfl) dX5_evening_4 rfl rfl (Nat.le_of_ble_eq_true rfl) (by decide) (fun r1 m1 hr1 hp1 => ?_)
  obtain ⟨rfl, hp1⟩ := hp1
  rw [hp1]
  refine z_istore_n C dX5_evening_7 (by decide) (L' := [(0, _), (1, _)]) rfl ?_
  refine z_iload_n C dX5_evening_8 1 rfl ?_
  refine z_bipush C dX5_evening_9 (by decide) ?_
  refine z_icmp_eq C dX5_evening_11 (tgt := 27) (by decide) (by omega) (by decide) (fun c2 => ?_) (fun c2 => ?_)
  · refine z_aload_n C dX5_evening_27 0 rfl ?_
    refine z_getR C ffX5_16 dX5_evening_28 (by decide) rfl rfl ?_
    refine z_aload_n C dX5_evening_31 0 rfl ?_
    refine z_getR C ffX5_10 dX5_evening_32 (by decide) rfl rfl ?_
    refine z_callVv C (c_X4_become (zl X) μ 6 1 (Or.inr (Or.inl rfl)) (Or.inl rfl) (by decide) v hv) yyX4_become mlX5_83 (zRc_of (i := 6) C (by decide) rfl rfl) dX5_evening_35 rfl rfl (Nat.le_of_ble_eq_true rfl) (by decide) (fun m3 hp3 => ?_)
    refine z_aload_n C dX5_evening_38 0 rfl ?_
    refine z_getR C ffX5_29 dX5_evening_39 (by decide) rfl rfl ?_
    refine z_aload_n C dX5_evening_42 0 rfl ?_
    refine z_getR C ffX5_16 dX5_evening_43 (by decide) rfl rfl ?_
    refine z_callVi C (c_X3_carryOut (zl X) m3 6 (Or.inr (Or.inl rfl)) v hp3.1 ho (gT s) (gN s) (zLt_fr hl (by rw [hp3.2 16 (by omega)]) (by rw [hp3.2 17 (by omega)])) (sBad_1 hon.1 (by omega)).2) yyX3_carryOut mlX5_87 (zRc_of (i := 16) C (by decide) rfl rfl) dX5_evening_46 rfl rfl (Nat.le_of_ble_eq_true rfl) (by decide) (fun r4 m4 hr4 hp4 => ?_)
    rw [hp4.1, ← hev]
    refine z_istore_n C dX5_evening_49 (by decide) (L' := [(0, _), (1, _), (2, _)]) rfl ?_
    refine z_aload_n C dX5_evening_50 0 rfl ?_
    refine z_getR C ffX5_29 dX5_evening_51 (by decide) rfl rfl ?_
    refine z_callVi C (c_X3_statements (zl X) m4 (gT s) (gN s) (zLt_fr hl (by rw [hp4.2.2.2 16 (by omega), hp3.2 16 (by omega)]) (by rw [hp4.2.2.2 17 (by omega), hp3.2 17 (by omega)]))) yyX3_statements mlX5_91 (zRc_of (i := 16) C (by decide) rfl rfl) dX5_evening_54 rfl rfl (Nat.le_of_ble_eq_true rfl) (by decide) (fun r5 m5 hr5 hp5 => ?_)
    obtain ⟨rfl, hp5⟩ := hp5
    have hc5 : r5 = sCnt s := hp5
    rw [hc5]
    refine z_istore_n C dX5_evening_57 (by decide) (L' := [(0, _), (1, _), (2, _), (3, _)]) rfl ?_
    refine z_aload_n C dX5_evening_58 0 rfl ?_
    refine z_getR C ffX5_29 dX5_evening_59 (by decide) rfl rfl ?_
    refine z_callVv C (c_X3_forget (zl X) m4) yyX3_forget mlX5_80 (zRc_of (i := 16) C (by decide) rfl rfl) dX5_evening_62 rfl rfl (Nat.le_of_ble_eq_true rfl) (by decide) (fun m6 hp6 => ?_)
    refine z_iload_n C dX5_evening_65 2 rfl ?_
    refine z_bipush C dX5_evening_66 (by decide) ?_
    refine z_icmp_eq C dX5_evening_68 (tgt := 77) (by decide) (by omega) (by decide) (fun c7 => ?_) (fun c7 => ?_)
    · refine z_aload_n C dX5_evening_77 0 rfl ?_
      refine z_getR C ffX5_10 dX5_evening_78 (by decide) rfl rfl ?_
      refine z_aload_n C dX5_evening_81 0 rfl ?_
      refine z_getR C ffX5_16 dX5_evening_82 (by decide) rfl rfl ?_
      refine z_callVv C (c_X4_become (zl X) m6 1 6 (Or.inl rfl) (Or.inr (Or.inl rfl)) (by decide) (sCar (gT s) (gN s) (gN s).toNat 0 v).2 (zT_fr hp4.2.1 (fun a _ _ => by rw [hp6, zs_ne _ _ _ (by omega)]))) yyX4_become mlX5_83 (zRc_of (i := 1) C (by decide) rfl rfl) dX5_evening_85 rfl rfl (Nat.le_of_ble_eq_true rfl) (by decide) (fun m8 hp8 => ?_)
      refine z_iload_n C dX5_evening_88 3 rfl ?_
      exact E dX5_evening_89 (by omega) rfl (t_fin (P := zCl) (show tEvening s = (sCnt s, pV (pN s) (sEv s).2) by unfold tEvening; (first | rw [hgv] | skip); repeat (first | rw [if_pos (by omega)] | rw [if_neg (by omega)])) (by rw [hev]; exact zCl_V (by rw [hp6]; exact zCl_N (zCl_fr hs (fun a _ => by rw [hp4.2.2.2 a (by omega), hp3.2 a (by omega)])) : zCl m6 (pN s)) hp8.1 (fun a _ => hp8.2 a (by omega))) (fun a _ _ => by rw [hp8.2 a (by omega), hp6, zs_ne _ _ _ (by omega), hp4.2.2.2 a (by omega), hp3.2 a (by omega)]))
    · refine z_sipush C dX5_evening_71 (by decide) ?_
      refine z_iload_n C dX5_evening_74 2 rfl ?_
      refine z_isub C dX5_evening_75 ?_
      exact E dX5_evening_76 (by omega) rfl (t_fin (P := zCl) (show tEvening s = ((-2000) - (sEv s).1, pN s) by unfold tEvening; (first | rw [hgv] | skip); repeat (first | rw [if_pos (by omega)] | rw [if_neg (by omega)])) (by rw [hp6]; exact zCl_N (zCl_fr hs (fun a _ => by rw [hp4.2.2.2 a (by omega), hp3.2 a (by omega)]))) (fun a _ _ => by rw [hp6, zs_ne _ _ _ (by omega), hp4.2.2.2 a (by omega), hp3.2 a (by omega)]))
  · refine z_aload_n C dX5_evening_14 0 rfl ?_
    refine z_getR C ffX5_29 dX5_evening_15 (by decide) rfl rfl ?_
    refine z_callVv C (c_X3_forget (zl X) μ) yyX3_forget mlX5_80 (zRc_of (i := 16) C (by decide) rfl rfl) dX5_evening_18 rfl rfl (Nat.le_of_ble_eq_true rfl) (by decide) (fun m9 hp9 => ?_)
    refine z_sipush C dX5_evening_21 (by decide) ?_
    refine z_iload_n C dX5_evening_24 1 rfl ?_
    refine z_isub C dX5_evening_25 ?_
    exact E dX5_evening_26 (by omega) rfl (t_fin (P := zCl) (show tEvening s = ((-1000) - sBad (gT s) (gN s), pN s) by unfold tEvening; (first | rw [hgv] | skip); repeat (first | rw [if_pos (by omega)] | rw [if_neg (by omega)])) (by rw [hp9]; exact zCl_N hs) (fun a _ _ => by rw [hp9, zs_ne _ _ _ (by omega)]))
set_option maxHeartbeats 4000000 in
theorem c_X5_person (l : Launch) (μ : zM) (s : zS) (hs : zCl μ s) (hso : sOK s) (p w : Int) (hp : zR p) (hwr : zR w) : zMi l yX5_person cX5_person 3 (.int) 5 120 [.inr 0, .inl p, .inl w] μ (fun (r : Int) (m : zM) => r = (tPerson s p w).1 ∧ zCl m (tPerson s p w).2 ∧ ∀ a, 31 ≤ a → a < 48 → m a = μ a) := by
  refine zMi_of (own := RX5) (by decide +kernel) rfl (Nat.le_of_ble_eq_true rfl) ?_
  intro X hX C hrm E
  subst hX
  show zJ X 3 μ 0 [(0, .inr 0), (1, .inl p), (2, .inl w)] []
  obtain ⟨hv, hk, hi, hl, hm, hw, hf⟩ := id hs
  obtain ⟨ho, hok, hoi, hon, hot, hom, how⟩ := id hso
  generalize hgv : gV s = v at hv ho
  obtain ⟨hv1, hv2, hv3, hv4, hv5, hv6, hv7⟩ := id hv
  obtain ⟨ho1, ho2, ho3, ho4, ho5, ho6, ho7⟩ := id ho
  have hN := vN_ok ho
  refine z_aload_n C dX5_person_0 0 rfl ?_
  refine z_getR C ffX5_10 dX5_person_1 (by decide) rfl rfl ?_
  refine z_iload_n C dX5_person_4 1 rfl ?_
  refine z_callVi C (c_X4_isThere (zl X) μ 1 (Or.inl rfl) v hv ho p (by omega)) yyX4_isThere mlX5_94 (zRc_of (i := 1) C (by decide) rfl rfl) dX5_person_5 rfl rfl (Nat.le_of_ble_eq_true rfl) (by decide) (fun r1 m1 hr1 hp1 => ?_)
  obtain ⟨rfl, hp1⟩ := hp1
  rcases hp1 with ⟨rfl, hp1⟩ | ⟨rfl, hp1⟩
  · refine z_if_ne C dX5_person_8 (tgt := 17) (by decide) (by decide) (fun _ => ?_) (fun c2 => (by exfalso; omega))
    refine z_iload_n C dX5_person_17 2 rfl ?_
    by_cases e3_0 : w = 0
    · refine z_tabIn C dX5_person_18 (by omega) 0 (by omega) (by omega) (off := 26) (tgt := 44) rfl (by decide) ?_
      have h6 := ho6 p (by omega) (by omega)
      refine z_aload_n C dX5_person_44 0 rfl ?_
      refine z_getR C ffX5_10 dX5_person_45 (by decide) rfl rfl ?_
      refine z_getR C ffX5_98 dX5_person_48 (by decide) rfl rfl ?_
      refine z_iload_n C dX5_person_51 1 rfl ?_
      refine z_iald C dX5_person_52 (by decide) rfl (by omega) (by decide) (fun hr4 => ?_)
      rw [(hv6 p (by omega) (by omega)).1]
      exact E dX5_person_53 (by omega) rfl (t_fin (P := zCl) (show tPerson s p w = (vK v p, s) by unfold tPerson; (first | rw [hgv] | skip); repeat (first | rw [if_pos (by omega)] | rw [if_neg (by omega)])) hs (fun a _ _ => rfl))
    by_cases e3_1 : w = 1
    · refine z_tabIn C dX5_person_18 (by omega) 1 (by omega) (by omega) (off := 36) (tgt := 54) rfl (by decide) ?_
      have h6 := ho6 p (by omega) (by omega)
      refine z_aload_n C dX5_person_54 0 rfl ?_
      refine z_getR C ffX5_10 dX5_person_55 (by decide) rfl rfl ?_
      refine z_getR C ffX5_101 dX5_person_58 (by decide) rfl rfl ?_
      refine z_iload_n C dX5_person_61 1 rfl ?_
      refine z_iald C dX5_person_62 (by decide) rfl (by omega) (by decide) (fun hr5 => ?_)
      rw [(hv6 p (by omega) (by omega)).2]
      exact E dX5_person_63 (by omega) rfl (t_fin (P := zCl) (show tPerson s p w = (vB v p, s) by unfold tPerson; (first | rw [hgv] | skip); repeat (first | rw [if_pos (by omega)] | rw [if_neg (by omega)])) hs (fun a _ _ => rfl))
    by_cases e3_2 : w = 2
    · refine z_tabIn C dX5_person_18 (by omega) 2 (by omega) (by omega) (off := 46) (tgt := 64) rfl (by decide) ?_
      refine z_aload_n C dX5_person_64 0 rfl ?_
      refine z_getR C ffX5_36 dX5_person_65 (by decide) rfl rfl ?_
      refine z_aload_n C dX5_person_68 0 rfl ?_
      refine z_getR C ffX5_10 dX5_person_69 (by decide) rfl rfl ?_
      refine z_callVv C (c_X2_hold (zl X) μ 1 (Or.inl rfl) v hv ho) yyX2_hold mlX5_104 (zRc_of (i := 18) C (by decide) rfl rfl) dX5_person_72 rfl rfl (Nat.le_of_ble_eq_true rfl) (by decide) (fun m6 hp6 => ?_)
      refine z_aload_n C dX5_person_75 0 rfl ?_
      refine z_getR C ffX5_36 dX5_person_76 (by decide) rfl rfl ?_
      refine z_iload_n C dX5_person_79 1 rfl ?_
      refine z_callVi C (c_X2_gaps (zl X) m6 v ho hp6.1 p (by omega)) yyX2_gaps mlX5_107 (zRc_of (i := 18) C (by decide) rfl rfl) dX5_person_80 rfl rfl (Nat.le_of_ble_eq_true rfl) (by decide) (fun r7 m7 hr7 hp7 => ?_)
      obtain ⟨rfl, hp7⟩ := hp7
      rw [hp7]
      have hgb := sGap_b ho p
      exact E dX5_person_83 (by omega) rfl (t_fin (P := zCl) (show tPerson s p w = (sGap v p, s) by unfold tPerson; (first | rw [hgv] | skip); repeat (first | rw [if_pos (by omega)] | rw [if_neg (by omega)])) (zCl_fr hs (fun a _ => by rw [hp6.2 a (by omega) (by omega) (by omega)])) (fun a _ _ => by rw [hp6.2 a (by omega) (by omega) (by omega)]))
    refine z_tabOut C dX5_person_18 (by omega) (by omega) (tgt := 84) (by decide) ?_
    refine z_aload_n C dX5_person_84 0 rfl ?_
    refine z_bipush C dX5_person_85 (by decide) ?_
    refine z_callVi C (c_X5_refuse (zl X) μ 2 (by omega)) yyX5_refuse mlX5_65 (zRc_of (i := 0) C (by decide) rfl rfl) dX5_person_87 rfl rfl (Nat.le_of_ble_eq_true rfl) (by decide) (fun r8 m8 hr8 hp8 => ?_)
    rw [hp8.1]
    exact E dX5_person_90 (by decide) rfl (t_fin (P := zCl) (show tPerson s p w = ((-2), (pF s 2)) by unfold tPerson; (first | rw [hgv] | skip); repeat (first | rw [if_pos (by omega)] | rw [if_neg (by omega)])) (by rw [hp8.2]; exact zCl_F hs (by omega)) (fun a _ _ => by rw [hp8.2, zs_ne _ _ _ (by omega)]))
  · refine z_if_ne C dX5_person_8 (tgt := 17) (by decide) (by decide) (fun c9 => (by exfalso; omega)) (fun _ => ?_)
    refine z_aload_n C dX5_person_11 0 rfl ?_
    refine z_iconst C dX5_person_12 ?_
    refine z_callVi C (c_X5_refuse (zl X) μ 1 (by omega)) yyX5_refuse mlX5_65 (zRc_of (i := 0) C (by decide) rfl rfl) dX5_person_13 rfl rfl (Nat.le_of_ble_eq_true rfl) (by decide) (fun r10 m10 hr10 hp10 => ?_)
    rw [hp10.1]
    exact E dX5_person_16 (by decide) rfl (t_fin (P := zCl) (show tPerson s p w = ((-1), (pF s 1)) by unfold tPerson; (first | rw [hgv] | skip); repeat (first | rw [if_pos (by omega)] | rw [if_neg (by omega)])) (by rw [hp10.2]; exact zCl_F hs (by omega)) (fun a _ _ => by rw [hp10.2, zs_ne _ _ _ (by omega)]))
set_option maxHeartbeats 4000000 in
theorem c_X5_liking (l : Launch) (μ : zM) (s : zS) (hs : zCl μ s) (hso : sOK s) (a b : Int) (ha : zR a) (hb : zR b) : zMi l yX5_liking cX5_liking 3 (.int) 3 63 [.inr 0, .inl a, .inl b] μ (fun (r : Int) (m : zM) => r = (tLiking s a b).1 ∧ zCl m (tLiking s a b).2 ∧ ∀ a, 31 ≤ a → a < 48 → m a = μ a) := by
  refine zMi_of (own := RX5) (by decide +kernel) rfl (Nat.le_of_ble_eq_true rfl) ?_
  intro X hX C hrm E
  subst hX
  show zJ X 3 μ 0 [(0, .inr 0), (1, .inl a), (2, .inl b)] []
  obtain ⟨hv, hk, hi, hl, hm, hw, hf⟩ := id hs
  obtain ⟨ho, hok, hoi, hon, hot, hom, how⟩ := id hso
  generalize hgv : gV s = v at hv ho
  obtain ⟨hv1, hv2, hv3, hv4, hv5, hv6, hv7⟩ := id hv
  obtain ⟨ho1, ho2, ho3, ho4, ho5, ho6, ho7⟩ := id ho
  have hN := vN_ok ho
  refine z_aload_n C dX5_liking_0 0 rfl ?_
  refine z_getR C ffX5_10 dX5_liking_1 (by decide) rfl rfl ?_
  refine z_iload_n C dX5_liking_4 1 rfl ?_
  refine z_iload_n C dX5_liking_5 2 rfl ?_
  refine z_callVi C (c_X4_areUnlike (zl X) μ 1 (Or.inl rfl) v hv ho a b (by omega) (by omega)) yyX4_areUnlike mlX5_110 (zRc_of (i := 1) C (by decide) rfl rfl) dX5_liking_6 rfl rfl (Nat.le_of_ble_eq_true rfl) (by decide) (fun r1 m1 hr1 hp1 => ?_)
  obtain ⟨rfl, hp1⟩ := hp1
  rcases hp1 with ⟨rfl, hp1⟩ | ⟨rfl, hp1⟩
  · refine z_if_ne C dX5_liking_9 (tgt := 18) (by decide) (by decide) (fun _ => ?_) (fun c2 => (by exfalso; omega))
    refine z_aload_n C dX5_liking_18 0 rfl ?_
    refine z_getR C ffX5_10 dX5_liking_19 (by decide) rfl rfl ?_
    refine z_iload_n C dX5_liking_22 1 rfl ?_
    refine z_iload_n C dX5_liking_23 2 rfl ?_
    refine z_callVi C (c_X4_likes (zl X) μ 1 (Or.inl rfl) v hv ho a b (by omega)) yyX4_likes mlX5_114 (zRc_of (i := 1) C (by decide) rfl rfl) dX5_liking_24 rfl rfl (Nat.le_of_ble_eq_true rfl) (by decide) (fun r3 m3 hr3 hp3 => ?_)
    obtain ⟨rfl, hp3⟩ := hp3
    rw [hp3]
    have h7 := ho7 a b (by omega)
    exact E dX5_liking_27 (by omega) rfl (t_fin (P := zCl) (show tLiking s a b = (vA v a b, s) by unfold tLiking; (first | rw [hgv] | skip); repeat (first | rw [if_pos (by omega)] | rw [if_neg (by omega)])) hs (fun a _ _ => rfl))
  · refine z_if_ne C dX5_liking_9 (tgt := 18) (by decide) (by decide) (fun c4 => (by exfalso; omega)) (fun _ => ?_)
    refine z_aload_n C dX5_liking_12 0 rfl ?_
    refine z_iconst C dX5_liking_13 ?_
    refine z_callVi C (c_X5_refuse (zl X) μ 1 (by omega)) yyX5_refuse mlX5_65 (zRc_of (i := 0) C (by decide) rfl rfl) dX5_liking_14 rfl rfl (Nat.le_of_ble_eq_true rfl) (by decide) (fun r5 m5 hr5 hp5 => ?_)
    rw [hp5.1]
    exact E dX5_liking_17 (by decide) rfl (t_fin (P := zCl) (show tLiking s a b = ((-1), (pF s 1)) by unfold tLiking; (first | rw [hgv] | skip); repeat (first | rw [if_pos (by omega)] | rw [if_neg (by omega)])) (by rw [hp5.2]; exact zCl_F hs (by omega)) (fun a _ _ => by rw [hp5.2, zs_ne _ _ _ (by omega)]))
set_option maxHeartbeats 4000000 in
theorem c_X5_like (l : Launch) (μ : zM) (s : zS) (hs : zCl μ s) (hso : sOK s) (a b z : Int) (ha : zR a) (hb : zR b) (hz : zR z) : zMi l yX5_like cX5_like 5 (.int) 3 63 [.inr 0, .inl a, .inl b, .inl z] μ (fun (r : Int) (m : zM) => r = (tLike s a b z).1 ∧ zCl m (tLike s a b z).2 ∧ ∀ a, 31 ≤ a → a < 48 → m a = μ a) := by
  refine zMi_of (own := RX5) (by decide +kernel) rfl (Nat.le_of_ble_eq_true rfl) ?_
  intro X hX C hrm E
  subst hX
  show zJ X 5 μ 0 [(0, .inr 0), (1, .inl a), (2, .inl b), (3, .inl z)] []
  obtain ⟨hv, hk, hi, hl, hm, hw, hf⟩ := id hs
  obtain ⟨ho, hok, hoi, hon, hot, hom, how⟩ := id hso
  generalize hgv : gV s = v at hv ho
  obtain ⟨hv1, hv2, hv3, hv4, hv5, hv6, hv7⟩ := id hv
  obtain ⟨ho1, ho2, ho3, ho4, ho5, ho6, ho7⟩ := id ho
  have hN := vN_ok ho
  refine z_aload_n C dX5_like_0 0 rfl ?_
  refine z_getR C ffX5_10 dX5_like_1 (by decide) rfl rfl ?_
  refine z_iload_n C dX5_like_4 1 rfl ?_
  refine z_iload_n C dX5_like_5 2 rfl ?_
  refine z_callVi C (c_X4_areUnlike (zl X) μ 1 (Or.inl rfl) v hv ho a b (by omega) (by omega)) yyX4_areUnlike mlX5_110 (zRc_of (i := 1) C (by decide) rfl rfl) dX5_like_6 rfl rfl (Nat.le_of_ble_eq_true rfl) (by decide) (fun r1 m1 hr1 hp1 => ?_)
  obtain ⟨rfl, hp1⟩ := hp1
  rcases hp1 with ⟨rfl, hp1⟩ | ⟨rfl, hp1⟩
  · refine z_if_ne C dX5_like_9 (tgt := 18) (by decide) (by decide) (fun _ => ?_) (fun c2 => (by exfalso; omega))
    refine z_iload_n C dX5_like_18 3 rfl ?_
    refine z_if_ge C dX5_like_19 (tgt := 29) (by decide) (by omega) (fun c3 => ?_) (fun c3 => ?_)
    · refine z_iload_n C dX5_like_29 3 rfl ?_
      refine z_bipush C dX5_like_30 (by decide) ?_
      refine z_icmp_le C dX5_like_32 (tgt := 42) (by decide) (by omega) (by decide) (fun c4 => ?_) (fun c4 => ?_)
      · refine z_aload_n C dX5_like_42 0 rfl ?_
        refine z_getR C ffX5_10 dX5_like_43 (by decide) rfl rfl ?_
        refine z_iload_n C dX5_like_46 1 rfl ?_
        refine z_iload_n C dX5_like_47 2 rfl ?_
        refine z_callVi C (c_X4_likes (zl X) μ 1 (Or.inl rfl) v hv ho a b (by omega)) yyX4_likes mlX5_114 (zRc_of (i := 1) C (by decide) rfl rfl) dX5_like_48 rfl rfl (Nat.le_of_ble_eq_true rfl) (by decide) (fun r5 m5 hr5 hp5 => ?_)
        obtain ⟨rfl, hp5⟩ := hp5
        rw [hp5]
        have h7 := ho7 a b (by omega)
        refine z_istore C dX5_like_51 (by decide) (L' := [(0, _), (1, _), (2, _), (3, _), (4, _)]) rfl ?_
        refine z_aload_n C dX5_like_53 0 rfl ?_
        refine z_getR C ffX5_10 dX5_like_54 (by decide) rfl rfl ?_
        refine z_iload_n C dX5_like_57 1 rfl ?_
        refine z_iload_n C dX5_like_58 2 rfl ?_
        refine z_iload_n C dX5_like_59 3 rfl ?_
        refine z_callVv C (c_X4_setLiking (zl X) μ 1 (Or.inl rfl) a b z (by omega) (by omega) (by omega)) yyX4_setLiking mlX5_118 (zRc_of (i := 1) C (by decide) rfl rfl) dX5_like_60 rfl rfl (Nat.le_of_ble_eq_true rfl) (by decide) (fun m6 hp6 => ?_)
        refine z_iload C dX5_like_63 4 rfl ?_
        exact E dX5_like_65 (by omega) rfl (t_fin (P := zCl) (show tLike s a b z = (vA v a b, pV s (vLike v a b z)) by unfold tLike; (first | rw [hgv] | skip); repeat (first | rw [if_pos (by omega)] | rw [if_neg (by omega)])) (by rw [hp6]; exact zCl_V hs (zT_like hv (by omega)) (fun a _ => zs_ne _ _ _ (by omega))) (fun a _ _ => by rw [hp6, zs_ne _ _ _ (by omega)]))
      · refine z_aload_n C dX5_like_35 0 rfl ?_
        refine z_bipush C dX5_like_36 (by decide) ?_
        refine z_callVi C (c_X5_refuse (zl X) μ 6 (by omega)) yyX5_refuse mlX5_65 (zRc_of (i := 0) C (by decide) rfl rfl) dX5_like_38 rfl rfl (Nat.le_of_ble_eq_true rfl) (by decide) (fun r7 m7 hr7 hp7 => ?_)
        rw [hp7.1]
        exact E dX5_like_41 (by decide) rfl (t_fin (P := zCl) (show tLike s a b z = ((-6), (pF s 6)) by unfold tLike; (first | rw [hgv] | skip); repeat (first | rw [if_pos (by omega)] | rw [if_neg (by omega)])) (by rw [hp7.2]; exact zCl_F hs (by omega)) (fun a _ _ => by rw [hp7.2, zs_ne _ _ _ (by omega)]))
    · refine z_aload_n C dX5_like_22 0 rfl ?_
      refine z_bipush C dX5_like_23 (by decide) ?_
      refine z_callVi C (c_X5_refuse (zl X) μ 4 (by omega)) yyX5_refuse mlX5_65 (zRc_of (i := 0) C (by decide) rfl rfl) dX5_like_25 rfl rfl (Nat.le_of_ble_eq_true rfl) (by decide) (fun r8 m8 hr8 hp8 => ?_)
      rw [hp8.1]
      exact E dX5_like_28 (by decide) rfl (t_fin (P := zCl) (show tLike s a b z = ((-4), (pF s 4)) by unfold tLike; (first | rw [hgv] | skip); repeat (first | rw [if_pos (by omega)] | rw [if_neg (by omega)])) (by rw [hp8.2]; exact zCl_F hs (by omega)) (fun a _ _ => by rw [hp8.2, zs_ne _ _ _ (by omega)]))
  · refine z_if_ne C dX5_like_9 (tgt := 18) (by decide) (by decide) (fun c9 => (by exfalso; omega)) (fun _ => ?_)
    refine z_aload_n C dX5_like_12 0 rfl ?_
    refine z_iconst C dX5_like_13 ?_
    refine z_callVi C (c_X5_refuse (zl X) μ 1 (by omega)) yyX5_refuse mlX5_65 (zRc_of (i := 0) C (by decide) rfl rfl) dX5_like_14 rfl rfl (Nat.le_of_ble_eq_true rfl) (by decide) (fun r10 m10 hr10 hp10 => ?_)
    rw [hp10.1]
    exact E dX5_like_17 (by decide) rfl (t_fin (P := zCl) (show tLike s a b z = ((-1), (pF s 1)) by unfold tLike; (first | rw [hgv] | skip); repeat (first | rw [if_pos (by omega)] | rw [if_neg (by omega)])) (by rw [hp10.2]; exact zCl_F hs (by omega)) (fun a _ _ => by rw [hp10.2, zs_ne _ _ _ (by omega)]))
set_option maxHeartbeats 4000000 in
theorem c_X5_order (l : Launch) (μ : zM) (s : zS) (hs : zCl μ s) (hso : sOK s) (a b : Int) (ha : zR a) (hb : zR b) : zMi l yX5_order cX5_order 4 (.int) 1 21 [.inr 0, .inl a, .inl b] μ (fun (r : Int) (m : zM) => r = (tOrder s a b).1 ∧ zCl m (tOrder s a b).2 ∧ ∀ a, 31 ≤ a → a < 48 → m a = μ a) := by
  refine zMi_of (own := RX5) (by decide +kernel) rfl (Nat.le_of_ble_eq_true rfl) ?_
  intro X hX C hrm E
  subst hX
  show zJ X 4 μ 0 [(0, .inr 0), (1, .inl a), (2, .inl b)] []
  obtain ⟨hv, hk, hi, hl, hm, hw, hf⟩ := id hs
  obtain ⟨ho, hok, hoi, hon, hot, hom, how⟩ := id hso
  generalize hgv : gV s = v at hv ho
  obtain ⟨hv1, hv2, hv3, hv4, hv5, hv6, hv7⟩ := id hv
  obtain ⟨ho1, ho2, ho3, ho4, ho5, ho6, ho7⟩ := id ho
  have hN := vN_ok ho
  refine z_iload_n C dX5_order_0 1 rfl ?_
  refine z_iconst C dX5_order_1 ?_
  refine z_icmp_lt C dX5_order_2 (tgt := 9) (by decide) (by omega) (by decide) (fun c1 => ?_) (fun c1 => ?_)
  · refine z_aload_n C dX5_order_9 0 rfl ?_
    refine z_bipush C dX5_order_10 (by decide) ?_
    refine z_callVi C (c_X5_refuse (zl X) μ 4 (by omega)) yyX5_refuse mlX5_65 (zRc_of (i := 0) C (by decide) rfl rfl) dX5_order_12 rfl rfl (Nat.le_of_ble_eq_true rfl) (by decide) (fun r2 m2 hr2 hp2 => ?_)
    rw [hp2.1]
    exact E dX5_order_15 (by decide) rfl (t_fin (P := zCl) (show tOrder s a b = ((-4), (pF s 4)) by unfold tOrder; (first | rw [hgv] | skip); repeat (first | rw [if_pos (by omega)] | rw [if_neg (by omega)])) (by rw [hp2.2]; exact zCl_F hs (by omega)) (fun a _ _ => by rw [hp2.2, zs_ne _ _ _ (by omega)]))
  · refine z_iload_n C dX5_order_5 2 rfl ?_
    refine z_if_ge C dX5_order_6 (tgt := 16) (by decide) (by omega) (fun c3 => ?_) (fun c3 => ?_)
    · refine z_iload_n C dX5_order_16 1 rfl ?_
      refine z_iconst C dX5_order_17 ?_
      refine z_icmp_gt C dX5_order_18 (tgt := 26) (by decide) (by omega) (by decide) (fun c4 => ?_) (fun c4 => ?_)
      · refine z_aload_n C dX5_order_26 0 rfl ?_
        refine z_bipush C dX5_order_27 (by decide) ?_
        refine z_callVi C (c_X5_refuse (zl X) μ 6 (by omega)) yyX5_refuse mlX5_65 (zRc_of (i := 0) C (by decide) rfl rfl) dX5_order_29 rfl rfl (Nat.le_of_ble_eq_true rfl) (by decide) (fun r5 m5 hr5 hp5 => ?_)
        rw [hp5.1]
        exact E dX5_order_32 (by decide) rfl (t_fin (P := zCl) (show tOrder s a b = ((-6), (pF s 6)) by unfold tOrder; (first | rw [hgv] | skip); repeat (first | rw [if_pos (by omega)] | rw [if_neg (by omega)])) (by rw [hp5.2]; exact zCl_F hs (by omega)) (fun a _ _ => by rw [hp5.2, zs_ne _ _ _ (by omega)]))
      · refine z_iload_n C dX5_order_21 2 rfl ?_
        refine z_iconst C dX5_order_22 ?_
        refine z_icmp_le C dX5_order_23 (tgt := 33) (by decide) (by omega) (by decide) (fun c6 => ?_) (fun c6 => ?_)
        · refine z_bipush C dX5_order_33 (by decide) ?_
          refine z_aload_n C dX5_order_35 0 rfl ?_
          refine z_getR C ffX5_10 dX5_order_36 (by decide) rfl rfl ?_
          refine z_getI C ffX5_122 dX5_order_39 (by decide) rfl rfl 4 rfl (fun hr7 => ?_)
          rw [hv3]
          refine z_imul C dX5_order_42 ?_
          refine z_aload_n C dX5_order_43 0 rfl ?_
          refine z_getR C ffX5_10 dX5_order_44 (by decide) rfl rfl ?_
          refine z_getI C ffX5_125 dX5_order_47 (by decide) rfl rfl 5 rfl (fun hr8 => ?_)
          rw [hv4]
          refine z_iadd C dX5_order_50 ?_
          refine z_istore_n C dX5_order_51 (by decide) (L' := [(0, _), (1, _), (2, _), (3, _)]) rfl ?_
          refine z_aload_n C dX5_order_52 0 rfl ?_
          refine z_getR C ffX5_10 dX5_order_53 (by decide) rfl rfl ?_
          refine z_iload_n C dX5_order_56 1 rfl ?_
          refine z_putI C ffX5_122 fp4_4 dX5_order_57 (by decide) rfl rfl 4 rfl (by omega) ?_
          refine z_mem (fun m9 em9 => ?_)
          refine z_aload_n C dX5_order_60 0 rfl ?_
          refine z_getR C ffX5_10 dX5_order_61 (by decide) rfl rfl ?_
          refine z_iload_n C dX5_order_64 2 rfl ?_
          refine z_putI C ffX5_125 fp4_5 dX5_order_65 (by decide) rfl rfl 5 rfl (by omega) ?_
          refine z_mem (fun m10 em10 => ?_)
          refine z_iload_n C dX5_order_68 3 rfl ?_
          exact E dX5_order_69 (by omega) rfl (t_fin (P := zCl) (show tOrder s a b = ((10 * vS v) + vH v, pV s (vOrd v a b)) by unfold tOrder; (first | rw [hgv] | skip); repeat (first | rw [if_pos (by omega)] | rw [if_neg (by omega)])) (by rw [em10, em9]; exact zCl_V hs (zT_ord hv) (fun a _ => by rw [zs_ne _ _ _ (by omega), zs_ne _ _ _ (by omega)])) (fun a _ _ => by rw [em10, zs_ne _ _ _ (by omega), em9, zs_ne _ _ _ (by omega)]))
        · refine z_aload_n C dX5_order_26 0 rfl ?_
          refine z_bipush C dX5_order_27 (by decide) ?_
          refine z_callVi C (c_X5_refuse (zl X) μ 6 (by omega)) yyX5_refuse mlX5_65 (zRc_of (i := 0) C (by decide) rfl rfl) dX5_order_29 rfl rfl (Nat.le_of_ble_eq_true rfl) (by decide) (fun r11 m11 hr11 hp11 => ?_)
          rw [hp11.1]
          exact E dX5_order_32 (by decide) rfl (t_fin (P := zCl) (show tOrder s a b = ((-6), (pF s 6)) by unfold tOrder; (first | rw [hgv] | skip); repeat (first | rw [if_pos (by omega)] | rw [if_neg (by omega)])) (by rw [hp11.2]; exact zCl_F hs (by omega)) (fun a _ _ => by rw [hp11.2, zs_ne _ _ _ (by omega)]))
    · refine z_aload_n C dX5_order_9 0 rfl ?_
      refine z_bipush C dX5_order_10 (by decide) ?_
      refine z_callVi C (c_X5_refuse (zl X) μ 4 (by omega)) yyX5_refuse mlX5_65 (zRc_of (i := 0) C (by decide) rfl rfl) dX5_order_12 rfl rfl (Nat.le_of_ble_eq_true rfl) (by decide) (fun r12 m12 hr12 hp12 => ?_)
      rw [hp12.1]
      exact E dX5_order_15 (by decide) rfl (t_fin (P := zCl) (show tOrder s a b = ((-4), (pF s 4)) by unfold tOrder; (first | rw [hgv] | skip); repeat (first | rw [if_pos (by omega)] | rw [if_neg (by omega)])) (by rw [hp12.2]; exact zCl_F hs (by omega)) (fun a _ _ => by rw [hp12.2, zs_ne _ _ _ (by omega)]))
set_option maxHeartbeats 4000000 in
theorem c_X5_law (l : Launch) (μ : zM) (s : zS) (hs : zCl μ s) (hso : sOK s) (w : Int) (hwr : zR w) : zMi l yX5_law cX5_law 3 (.int) 1 21 [.inr 0, .inl w] μ (fun (r : Int) (m : zM) => r = (tLaw s w).1 ∧ zCl m (tLaw s w).2 ∧ ∀ a, 31 ≤ a → a < 48 → m a = μ a) := by
  refine zMi_of (own := RX5) (by decide +kernel) rfl (Nat.le_of_ble_eq_true rfl) ?_
  intro X hX C hrm E
  subst hX
  show zJ X 3 μ 0 [(0, .inr 0), (1, .inl w)] []
  obtain ⟨hv, hk, hi, hl, hm, hw, hf⟩ := id hs
  obtain ⟨ho, hok, hoi, hon, hot, hom, how⟩ := id hso
  generalize hgv : gV s = v at hv ho
  obtain ⟨hv1, hv2, hv3, hv4, hv5, hv6, hv7⟩ := id hv
  obtain ⟨ho1, ho2, ho3, ho4, ho5, ho6, ho7⟩ := id ho
  have hN := vN_ok ho
  refine z_iload_n C dX5_law_0 1 rfl ?_
  refine z_callSi C (c_X5_isLaw (zl X) μ w (by omega)) yyX5_isLaw mlX5_128 dX5_law_1 rfl rfl (Nat.le_of_ble_eq_true rfl) (by decide) (fun r1 m1 hr1 hp1 => ?_)
  obtain ⟨rfl, hp1⟩ := hp1
  rcases hp1 with ⟨rfl, hp1⟩ | ⟨rfl, hp1⟩
  · refine z_if_ne C dX5_law_4 (tgt := 14) (by decide) (by decide) (fun _ => ?_) (fun c2 => (by exfalso; omega))
    refine z_aload_n C dX5_law_14 0 rfl ?_
    refine z_getR C ffX5_10 dX5_law_15 (by decide) rfl rfl ?_
    refine z_getI C ffX5_131 dX5_law_18 (by decide) rfl rfl 6 rfl (fun hr3 => ?_)
    rw [hv5]
    refine z_istore_n C dX5_law_21 (by decide) (L' := [(0, _), (1, _), (2, _)]) rfl ?_
    refine z_aload_n C dX5_law_22 0 rfl ?_
    refine z_getR C ffX5_10 dX5_law_23 (by decide) rfl rfl ?_
    refine z_iload_n C dX5_law_26 1 rfl ?_
    refine z_putI C ffX5_131 fp4_6 dX5_law_27 (by decide) rfl rfl 6 rfl (by omega) ?_
    refine z_mem (fun m4 em4 => ?_)
    refine z_iload_n C dX5_law_30 2 rfl ?_
    exact E dX5_law_31 (by omega) rfl (t_fin (P := zCl) (show tLaw s w = (vW v, pV s (vLaw v w)) by unfold tLaw; (first | rw [hgv] | skip); repeat (first | rw [if_pos (by omega)] | rw [if_neg (by omega)])) (by rw [em4]; exact zCl_V hs (zT_law hv) (fun a _ => by rw [zs_ne _ _ _ (by omega)])) (fun a _ _ => by rw [em4, zs_ne _ _ _ (by omega)]))
  · refine z_if_ne C dX5_law_4 (tgt := 14) (by decide) (by decide) (fun c5 => (by exfalso; omega)) (fun _ => ?_)
    refine z_aload_n C dX5_law_7 0 rfl ?_
    refine z_bipush C dX5_law_8 (by decide) ?_
    refine z_callVi C (c_X5_refuse (zl X) μ 2 (by omega)) yyX5_refuse mlX5_65 (zRc_of (i := 0) C (by decide) rfl rfl) dX5_law_10 rfl rfl (Nat.le_of_ble_eq_true rfl) (by decide) (fun r6 m6 hr6 hp6 => ?_)
    rw [hp6.1]
    exact E dX5_law_13 (by decide) rfl (t_fin (P := zCl) (show tLaw s w = ((-2), (pF s 2)) by unfold tLaw; (first | rw [hgv] | skip); repeat (first | rw [if_pos (by omega)] | rw [if_neg (by omega)])) (by rw [hp6.2]; exact zCl_F hs (by omega)) (fun a _ _ => by rw [hp6.2, zs_ne _ _ _ (by omega)]))
set_option maxHeartbeats 4000000 in
theorem c_X5_meets (l : Launch) (μ : zM) (s : zS) (hs : zCl μ s) (hso : sOK s) (p k : Int) (hpr : zR p) (hkr : zR k) : zMi l yX5_meets cX5_meets 3 (.int) 5 120 [.inr 0, .inl p, .inl k] μ (fun (r : Int) (m : zM) => r = (tMeets s p k).1 ∧ zCl m (tMeets s p k).2 ∧ ∀ a, 31 ≤ a → a < 48 → m a = μ a) := by
  refine zMi_of (own := RX5) (by decide +kernel) rfl (Nat.le_of_ble_eq_true rfl) ?_
  intro X hX C hrm E
  subst hX
  show zJ X 3 μ 0 [(0, .inr 0), (1, .inl p), (2, .inl k)] []
  obtain ⟨hv, hk, hi, hl, hm, hw, hf⟩ := id hs
  obtain ⟨ho, hok, hoi, hon, hot, hom, how⟩ := id hso
  generalize hgv : gV s = v at hv ho
  obtain ⟨hv1, hv2, hv3, hv4, hv5, hv6, hv7⟩ := id hv
  obtain ⟨ho1, ho2, ho3, ho4, ho5, ho6, ho7⟩ := id ho
  have hN := vN_ok ho
  refine z_aload_n C dX5_meets_0 0 rfl ?_
  refine z_getR C ffX5_10 dX5_meets_1 (by decide) rfl rfl ?_
  refine z_iload_n C dX5_meets_4 1 rfl ?_
  refine z_callVi C (c_X4_isThere (zl X) μ 1 (Or.inl rfl) v hv ho p (by omega)) yyX4_isThere mlX5_94 (zRc_of (i := 1) C (by decide) rfl rfl) dX5_meets_5 rfl rfl (Nat.le_of_ble_eq_true rfl) (by decide) (fun r1 m1 hr1 hp1 => ?_)
  obtain ⟨rfl, hp1⟩ := hp1
  rcases hp1 with ⟨rfl, hp1⟩ | ⟨rfl, hp1⟩
  · refine z_if_eq C dX5_meets_8 (tgt := 22) (by decide) (by decide) (fun c2 => (by exfalso; omega)) (fun _ => ?_)
    refine z_aload_n C dX5_meets_11 0 rfl ?_
    refine z_getR C ffX5_10 dX5_meets_12 (by decide) rfl rfl ?_
    refine z_iload_n C dX5_meets_15 2 rfl ?_
    refine z_callVi C (c_X4_isRound (zl X) μ 1 (Or.inl rfl) v hv ho k (by omega)) yyX4_isRound mlX5_134 (zRc_of (i := 1) C (by decide) rfl rfl) dX5_meets_16 rfl rfl (Nat.le_of_ble_eq_true rfl) (by decide) (fun r3 m3 hr3 hp3 => ?_)
    obtain ⟨rfl, hp3⟩ := hp3
    rcases hp3 with ⟨rfl, hp3⟩ | ⟨rfl, hp3⟩
    · refine z_if_ne C dX5_meets_19 (tgt := 28) (by decide) (by decide) (fun _ => ?_) (fun c4 => (by exfalso; omega))
      refine z_aload_n C dX5_meets_28 0 rfl ?_
      refine z_getR C ffX5_36 dX5_meets_29 (by decide) rfl rfl ?_
      refine z_aload_n C dX5_meets_32 0 rfl ?_
      refine z_getR C ffX5_10 dX5_meets_33 (by decide) rfl rfl ?_
      refine z_callVv C (c_X2_hold (zl X) μ 1 (Or.inl rfl) v hv ho) yyX2_hold mlX5_104 (zRc_of (i := 18) C (by decide) rfl rfl) dX5_meets_36 rfl rfl (Nat.le_of_ble_eq_true rfl) (by decide) (fun m5 hp5 => ?_)
      refine z_aload_n C dX5_meets_39 0 rfl ?_
      refine z_getR C ffX5_36 dX5_meets_40 (by decide) rfl rfl ?_
      refine z_getR C ffX5_137 dX5_meets_43 (by decide) rfl rfl ?_
      refine z_iload_n C dX5_meets_46 1 rfl ?_
      refine z_aald C dX5_meets_47 (by decide) rfl (by omega) (by decide) ?_
      refine z_iload_n C dX5_meets_48 2 rfl ?_
      refine z_iald C dX5_meets_49 (by omega) (zd_row (by omega)) (by omega) (by decide) (fun hr6 => ?_)
      rw [(hp5.1.2.2.2 p k (by omega) (by omega) (by omega) (by omega)).1]
      have hU := sPar_U ho (p := p) (k := k)
      exact E dX5_meets_50 (by omega) rfl (t_fin (P := zCl) (show tMeets s p k = (sPar v p k, s) by unfold tMeets; (first | rw [hgv] | skip); repeat (first | rw [if_pos (by omega)] | rw [if_neg (by omega)])) (zCl_fr hs (fun a _ => by rw [hp5.2 a (by omega) (by omega) (by omega)])) (fun a _ _ => by rw [hp5.2 a (by omega) (by omega) (by omega)]))
    · refine z_if_ne C dX5_meets_19 (tgt := 28) (by decide) (by decide) (fun c7 => (by exfalso; omega)) (fun _ => ?_)
      refine z_aload_n C dX5_meets_22 0 rfl ?_
      refine z_iconst C dX5_meets_23 ?_
      refine z_callVi C (c_X5_refuse (zl X) μ 1 (by omega)) yyX5_refuse mlX5_65 (zRc_of (i := 0) C (by decide) rfl rfl) dX5_meets_24 rfl rfl (Nat.le_of_ble_eq_true rfl) (by decide) (fun r8 m8 hr8 hp8 => ?_)
      rw [hp8.1]
      exact E dX5_meets_27 (by decide) rfl (t_fin (P := zCl) (show tMeets s p k = ((-1), (pF s 1)) by unfold tMeets; (first | rw [hgv] | skip); repeat (first | rw [if_pos (by omega)] | rw [if_neg (by omega)])) (by rw [hp8.2]; exact zCl_F hs (by omega)) (fun a _ _ => by rw [hp8.2, zs_ne _ _ _ (by omega)]))
  · refine z_if_eq C dX5_meets_8 (tgt := 22) (by decide) (by decide) (fun _ => ?_) (fun c9 => (by exfalso; omega))
    refine z_aload_n C dX5_meets_22 0 rfl ?_
    refine z_iconst C dX5_meets_23 ?_
    refine z_callVi C (c_X5_refuse (zl X) μ 1 (by omega)) yyX5_refuse mlX5_65 (zRc_of (i := 0) C (by decide) rfl rfl) dX5_meets_24 rfl rfl (Nat.le_of_ble_eq_true rfl) (by decide) (fun r10 m10 hr10 hp10 => ?_)
    rw [hp10.1]
    exact E dX5_meets_27 (by decide) rfl (t_fin (P := zCl) (show tMeets s p k = ((-1), (pF s 1)) by unfold tMeets; (first | rw [hgv] | skip); repeat (first | rw [if_pos (by omega)] | rw [if_neg (by omega)])) (by rw [hp10.2]; exact zCl_F hs (by omega)) (fun a _ _ => by rw [hp10.2, zs_ne _ _ _ (by omega)]))
set_option maxHeartbeats 4000000 in
theorem c_X5_felt (l : Launch) (μ : zM) (s : zS) (hs : zCl μ s) (hso : sOK s) (p k : Int) (hpr : zR p) (hkr : zR k) : zMi l yX5_felt cX5_felt 3 (.int) 5 120 [.inr 0, .inl p, .inl k] μ (fun (r : Int) (m : zM) => r = (tFelt s p k).1 ∧ zCl m (tFelt s p k).2 ∧ ∀ a, 31 ≤ a → a < 48 → m a = μ a) := by
  refine zMi_of (own := RX5) (by decide +kernel) rfl (Nat.le_of_ble_eq_true rfl) ?_
  intro X hX C hrm E
  subst hX
  show zJ X 3 μ 0 [(0, .inr 0), (1, .inl p), (2, .inl k)] []
  obtain ⟨hv, hk, hi, hl, hm, hw, hf⟩ := id hs
  obtain ⟨ho, hok, hoi, hon, hot, hom, how⟩ := id hso
  generalize hgv : gV s = v at hv ho
  obtain ⟨hv1, hv2, hv3, hv4, hv5, hv6, hv7⟩ := id hv
  obtain ⟨ho1, ho2, ho3, ho4, ho5, ho6, ho7⟩ := id ho
  have hN := vN_ok ho
  refine z_aload_n C dX5_felt_0 0 rfl ?_
  refine z_getR C ffX5_10 dX5_felt_1 (by decide) rfl rfl ?_
  refine z_iload_n C dX5_felt_4 1 rfl ?_
  refine z_callVi C (c_X4_isThere (zl X) μ 1 (Or.inl rfl) v hv ho p (by omega)) yyX4_isThere mlX5_94 (zRc_of (i := 1) C (by decide) rfl rfl) dX5_felt_5 rfl rfl (Nat.le_of_ble_eq_true rfl) (by decide) (fun r1 m1 hr1 hp1 => ?_)
  obtain ⟨rfl, hp1⟩ := hp1
  rcases hp1 with ⟨rfl, hp1⟩ | ⟨rfl, hp1⟩
  · refine z_if_eq C dX5_felt_8 (tgt := 22) (by decide) (by decide) (fun c2 => (by exfalso; omega)) (fun _ => ?_)
    refine z_aload_n C dX5_felt_11 0 rfl ?_
    refine z_getR C ffX5_10 dX5_felt_12 (by decide) rfl rfl ?_
    refine z_iload_n C dX5_felt_15 2 rfl ?_
    refine z_callVi C (c_X4_isRound (zl X) μ 1 (Or.inl rfl) v hv ho k (by omega)) yyX4_isRound mlX5_134 (zRc_of (i := 1) C (by decide) rfl rfl) dX5_felt_16 rfl rfl (Nat.le_of_ble_eq_true rfl) (by decide) (fun r3 m3 hr3 hp3 => ?_)
    obtain ⟨rfl, hp3⟩ := hp3
    rcases hp3 with ⟨rfl, hp3⟩ | ⟨rfl, hp3⟩
    · refine z_if_ne C dX5_felt_19 (tgt := 31) (by decide) (by decide) (fun _ => ?_) (fun c4 => (by exfalso; omega))
      refine z_aload_n C dX5_felt_31 0 rfl ?_
      refine z_getR C ffX5_36 dX5_felt_32 (by decide) rfl rfl ?_
      refine z_aload_n C dX5_felt_35 0 rfl ?_
      refine z_getR C ffX5_10 dX5_felt_36 (by decide) rfl rfl ?_
      refine z_callVv C (c_X2_hold (zl X) μ 1 (Or.inl rfl) v hv ho) yyX2_hold mlX5_104 (zRc_of (i := 18) C (by decide) rfl rfl) dX5_felt_39 rfl rfl (Nat.le_of_ble_eq_true rfl) (by decide) (fun m5 hp5 => ?_)
      refine z_aload_n C dX5_felt_42 0 rfl ?_
      refine z_getR C ffX5_36 dX5_felt_43 (by decide) rfl rfl ?_
      refine z_getR C ffX5_142 dX5_felt_46 (by decide) rfl rfl ?_
      refine z_iload_n C dX5_felt_49 1 rfl ?_
      refine z_aald C dX5_felt_50 (by decide) rfl (by omega) (by decide) ?_
      refine z_iload_n C dX5_felt_51 2 rfl ?_
      refine z_iald C dX5_felt_52 (by omega) (zd_row (by omega)) (by omega) (by decide) (fun hr6 => ?_)
      rw [(hp5.1.2.2.2 p k (by omega) (by omega) (by omega) (by omega)).2]
      have hU := sFl_b ho (p := p) (k := k) (by omega)
      exact E dX5_felt_53 (by omega) rfl (t_fin (P := zCl) (show tFelt s p k = (sFl v p k, s) by unfold tFelt; (first | rw [hgv] | skip); repeat (first | rw [if_pos (by omega)] | rw [if_neg (by omega)])) (zCl_fr hs (fun a _ => by rw [hp5.2 a (by omega) (by omega) (by omega)])) (fun a _ _ => by rw [hp5.2 a (by omega) (by omega) (by omega)]))
    · refine z_if_ne C dX5_felt_19 (tgt := 31) (by decide) (by decide) (fun c7 => (by exfalso; omega)) (fun _ => ?_)
      refine z_ldc C (n := 1000000000) dX5_felt_22 kkX5_141 ?_
      refine z_aload_n C dX5_felt_24 0 rfl ?_
      refine z_iconst C dX5_felt_25 ?_
      refine z_callVi C (c_X5_refuse (zl X) μ 1 (by omega)) yyX5_refuse mlX5_65 (zRc_of (i := 0) C (by decide) rfl rfl) dX5_felt_26 rfl rfl (Nat.le_of_ble_eq_true rfl) (by decide) (fun r8 m8 hr8 hp8 => ?_)
      rw [hp8.1]
      refine z_isub C dX5_felt_29 ?_
      rw [show (1000000000 : Int) - (-1) = 1000000001 from rfl]
      exact E dX5_felt_30 (by omega) rfl (t_fin (P := zCl) (show tFelt s p k = (1000000001, pF s 1) by unfold tFelt; (first | rw [hgv] | skip); repeat (first | rw [if_pos (by omega)] | rw [if_neg (by omega)])) (by rw [hp8.2]; exact zCl_F hs (by omega)) (fun a _ _ => by rw [hp8.2, zs_ne _ _ _ (by omega)]))
  · refine z_if_eq C dX5_felt_8 (tgt := 22) (by decide) (by decide) (fun _ => ?_) (fun c9 => (by exfalso; omega))
    refine z_ldc C (n := 1000000000) dX5_felt_22 kkX5_141 ?_
    refine z_aload_n C dX5_felt_24 0 rfl ?_
    refine z_iconst C dX5_felt_25 ?_
    refine z_callVi C (c_X5_refuse (zl X) μ 1 (by omega)) yyX5_refuse mlX5_65 (zRc_of (i := 0) C (by decide) rfl rfl) dX5_felt_26 rfl rfl (Nat.le_of_ble_eq_true rfl) (by decide) (fun r10 m10 hr10 hp10 => ?_)
    rw [hp10.1]
    refine z_isub C dX5_felt_29 ?_
    rw [show (1000000000 : Int) - (-1) = 1000000001 from rfl]
    exact E dX5_felt_30 (by omega) rfl (t_fin (P := zCl) (show tFelt s p k = (1000000001, pF s 1) by unfold tFelt; (first | rw [hgv] | skip); repeat (first | rw [if_pos (by omega)] | rw [if_neg (by omega)])) (by rw [hp10.2]; exact zCl_F hs (by omega)) (fun a _ _ => by rw [hp10.2, zs_ne _ _ _ (by omega)]))
set_option maxHeartbeats 4000000 in
theorem c_X5_yeses (l : Launch) (μ : zM) (s : zS) (hs : zCl μ s) (hso : sOK s) (p w : Int) (hpr : zR p) (hwr : zR w) : zMi l yX5_yeses cX5_yeses 3 (.int) 5 120 [.inr 0, .inl p, .inl w] μ (fun (r : Int) (m : zM) => r = (tYeses s p w).1 ∧ zCl m (tYeses s p w).2 ∧ ∀ a, 31 ≤ a → a < 48 → m a = μ a) := by
  refine zMi_of (own := RX5) (by decide +kernel) rfl (Nat.le_of_ble_eq_true rfl) ?_
  intro X hX C hrm E
  subst hX
  show zJ X 3 μ 0 [(0, .inr 0), (1, .inl p), (2, .inl w)] []
  obtain ⟨hv, hk, hi, hl, hm, hw, hf⟩ := id hs
  obtain ⟨ho, hok, hoi, hon, hot, hom, how⟩ := id hso
  generalize hgv : gV s = v at hv ho
  obtain ⟨hv1, hv2, hv3, hv4, hv5, hv6, hv7⟩ := id hv
  obtain ⟨ho1, ho2, ho3, ho4, ho5, ho6, ho7⟩ := id ho
  have hN := vN_ok ho
  refine z_aload_n C dX5_yeses_0 0 rfl ?_
  refine z_getR C ffX5_10 dX5_yeses_1 (by decide) rfl rfl ?_
  refine z_iload_n C dX5_yeses_4 1 rfl ?_
  refine z_callVi C (c_X4_isThere (zl X) μ 1 (Or.inl rfl) v hv ho p (by omega)) yyX4_isThere mlX5_94 (zRc_of (i := 1) C (by decide) rfl rfl) dX5_yeses_5 rfl rfl (Nat.le_of_ble_eq_true rfl) (by decide) (fun r1 m1 hr1 hp1 => ?_)
  obtain ⟨rfl, hp1⟩ := hp1
  rcases hp1 with ⟨rfl, hp1⟩ | ⟨rfl, hp1⟩
  · refine z_if_ne C dX5_yeses_8 (tgt := 17) (by decide) (by decide) (fun _ => ?_) (fun c2 => (by exfalso; omega))
    refine z_aload_n C dX5_yeses_17 0 rfl ?_
    refine z_getR C ffX5_36 dX5_yeses_18 (by decide) rfl rfl ?_
    refine z_aload_n C dX5_yeses_21 0 rfl ?_
    refine z_getR C ffX5_10 dX5_yeses_22 (by decide) rfl rfl ?_
    refine z_callVv C (c_X2_hold (zl X) μ 1 (Or.inl rfl) v hv ho) yyX2_hold mlX5_104 (zRc_of (i := 18) C (by decide) rfl rfl) dX5_yeses_25 rfl rfl (Nat.le_of_ble_eq_true rfl) (by decide) (fun m3 hp3 => ?_)
    refine z_iload_n C dX5_yeses_28 2 rfl ?_
    by_cases e4_0 : w = 0
    · refine z_look C dX5_yeses_29 (by omega) (by decide) (off := 27) (by rw [e4_0]; decide) (tgt := 56) (by decide) ?_
      refine z_aload_n C dX5_yeses_56 0 rfl ?_
      refine z_getR C ffX5_36 dX5_yeses_57 (by decide) rfl rfl ?_
      refine z_getR C ffX5_145 dX5_yeses_60 (by decide) rfl rfl ?_
      refine z_iload_n C dX5_yeses_63 1 rfl ?_
      refine z_iald C dX5_yeses_64 (by decide) rfl (by omega) (by decide) (fun hr5 => ?_)
      rw [hp3.1.2.2.1 p (by omega) (by omega)]
      have hU := sSlN_b ho p 5
      exact E dX5_yeses_65 (by first | omega | (unfold sSl; omega)) rfl (t_fin (P := zCl) (show tYeses s p w = (sSl v p, s) by unfold tYeses; (first | rw [hgv] | skip); repeat (first | rw [if_pos (by omega)] | rw [if_neg (by omega)])) (zCl_fr hs (fun a _ => by rw [hp3.2 a (by omega) (by omega) (by omega)])) (fun a _ _ => by rw [hp3.2 a (by omega) (by omega) (by omega)]))
    by_cases e4_1 : w = 1
    · refine z_look C dX5_yeses_29 (by omega) (by decide) (off := 37) (by rw [e4_1]; decide) (tgt := 66) (by decide) ?_
      refine z_aload_n C dX5_yeses_66 0 rfl ?_
      refine z_getR C ffX5_36 dX5_yeses_67 (by decide) rfl rfl ?_
      refine z_iload_n C dX5_yeses_70 1 rfl ?_
      refine z_callVi C (c_X2_slipsFor (zl X) m3 v ho hp3.1 p (by omega)) yyX2_slipsFor mlX5_148 (zRc_of (i := 18) C (by decide) rfl rfl) dX5_yeses_71 rfl rfl (Nat.le_of_ble_eq_true rfl) (by decide) (fun r6 m6 hr6 hp6 => ?_)
      obtain ⟨rfl, hp6⟩ := hp6
      rw [hp6]
      have hU := sToN_b v p 5 (by omega)
      exact E dX5_yeses_74 (by first | omega | (unfold sSl; omega)) rfl (t_fin (P := zCl) (show tYeses s p w = (sToN v p 5, s) by unfold tYeses; (first | rw [hgv] | skip); repeat (first | rw [if_pos (by omega)] | rw [if_neg (by omega)])) (zCl_fr hs (fun a _ => by rw [hp3.2 a (by omega) (by omega) (by omega)])) (fun a _ _ => by rw [hp3.2 a (by omega) (by omega) (by omega)]))
    refine z_look C dX5_yeses_29 (by omega) (by decide) (off := 46) (by simp [Op.lookupswitch.offset, Ne.symm e4_0, Ne.symm e4_1, e4_0, e4_1]) (tgt := 75) (by decide) ?_
    refine z_aload_n C dX5_yeses_75 0 rfl ?_
    refine z_bipush C dX5_yeses_76 (by decide) ?_
    refine z_callVi C (c_X5_refuse (zl X) m3 2 (by omega)) yyX5_refuse mlX5_65 (zRc_of (i := 0) C (by decide) rfl rfl) dX5_yeses_78 rfl rfl (Nat.le_of_ble_eq_true rfl) (by decide) (fun r7 m7 hr7 hp7 => ?_)
    rw [hp7.1]
    exact E dX5_yeses_81 (by decide) rfl (t_fin (P := zCl) (show tYeses s p w = ((-2), (pF s 2)) by unfold tYeses; (first | rw [hgv] | skip); repeat (first | rw [if_pos (by omega)] | rw [if_neg (by omega)])) (by rw [hp7.2]; exact zCl_F (zCl_fr hs (fun a _ => by rw [hp3.2 a (by omega) (by omega) (by omega)])) (by omega)) (fun a _ _ => by rw [hp7.2, zs_ne _ _ _ (by omega), hp3.2 a (by omega) (by omega) (by omega)]))
  · refine z_if_ne C dX5_yeses_8 (tgt := 17) (by decide) (by decide) (fun c8 => (by exfalso; omega)) (fun _ => ?_)
    refine z_aload_n C dX5_yeses_11 0 rfl ?_
    refine z_iconst C dX5_yeses_12 ?_
    refine z_callVi C (c_X5_refuse (zl X) μ 1 (by omega)) yyX5_refuse mlX5_65 (zRc_of (i := 0) C (by decide) rfl rfl) dX5_yeses_13 rfl rfl (Nat.le_of_ble_eq_true rfl) (by decide) (fun r9 m9 hr9 hp9 => ?_)
    rw [hp9.1]
    exact E dX5_yeses_16 (by decide) rfl (t_fin (P := zCl) (show tYeses s p w = ((-1), (pF s 1)) by unfold tYeses; (first | rw [hgv] | skip); repeat (first | rw [if_pos (by omega)] | rw [if_neg (by omega)])) (by rw [hp9.2]; exact zCl_F hs (by omega)) (fun a _ _ => by rw [hp9.2, zs_ne _ _ _ (by omega)]))
set_option maxHeartbeats 4000000 in
theorem c_X5_pairs (l : Launch) (μ : zM) (s : zS) (hs : zCl μ s) (hso : sOK s) (p : Int) (hpr : zR p) : zMi l yX5_pairs cX5_pairs 2 (.int) 5 124 [.inr 0, .inl p] μ (fun (r : Int) (m : zM) => r = (tPairs s p).1 ∧ zCl m (tPairs s p).2 ∧ ∀ a, 31 ≤ a → a < 48 → m a = μ a) := by
  refine zMi_of (own := RX5) (by decide +kernel) rfl (Nat.le_of_ble_eq_true rfl) ?_
  intro X hX C hrm E
  subst hX
  show zJ X 2 μ 0 [(0, .inr 0), (1, .inl p)] []
  obtain ⟨hv, hk, hi, hl, hm, hw, hf⟩ := id hs
  obtain ⟨ho, hok, hoi, hon, hot, hom, how⟩ := id hso
  generalize hgv : gV s = v at hv ho
  obtain ⟨hv1, hv2, hv3, hv4, hv5, hv6, hv7⟩ := id hv
  obtain ⟨ho1, ho2, ho3, ho4, ho5, ho6, ho7⟩ := id ho
  have hN := vN_ok ho
  refine z_iload_n C dX5_pairs_0 1 rfl ?_
  refine z_iconst C dX5_pairs_1 ?_
  refine z_icmp_eq C dX5_pairs_2 (tgt := 22) (by decide) (by omega) (by decide) (fun c1 => ?_) (fun c1 => ?_)
  · refine z_aload_n C dX5_pairs_22 0 rfl ?_
    refine z_getR C ffX5_36 dX5_pairs_23 (by decide) rfl rfl ?_
    refine z_aload_n C dX5_pairs_26 0 rfl ?_
    refine z_getR C ffX5_10 dX5_pairs_27 (by decide) rfl rfl ?_
    refine z_callVv C (c_X2_hold (zl X) μ 1 (Or.inl rfl) v hv ho) yyX2_hold mlX5_104 (zRc_of (i := 18) C (by decide) rfl rfl) dX5_pairs_30 rfl rfl (Nat.le_of_ble_eq_true rfl) (by decide) (fun m2 hp2 => ?_)
    refine z_aload_n C dX5_pairs_33 0 rfl ?_
    refine z_getR C ffX5_43 dX5_pairs_34 (by decide) rfl rfl ?_
    refine z_aload_n C dX5_pairs_37 0 rfl ?_
    refine z_getR C ffX5_10 dX5_pairs_38 (by decide) rfl rfl ?_
    refine z_aload_n C dX5_pairs_41 0 rfl ?_
    refine z_getR C ffX5_36 dX5_pairs_42 (by decide) rfl rfl ?_
    refine z_aload_n C dX5_pairs_45 0 rfl ?_
    refine z_getR C ffX5_10 dX5_pairs_46 (by decide) rfl rfl ?_
    refine z_getI C ffX5_131 dX5_pairs_49 (by decide) rfl rfl 6 rfl (fun hr3 => ?_)
    rw [show m2 1 6 = vW v by rw [hp2.2 1 (by omega) (by omega) (by omega)]; exact hv5]
    refine z_callVv C (c_X1_settle (zl X) m2 1 (Or.inl rfl) v (zT_fr hv (fun a _ _ => by rw [hp2.2 a (by omega) (by omega) (by omega)])) ho hp2.1 (vW v) (by omega)) yyX1_settle mlX5_151 (zRc_of (i := 22) C (by decide) rfl rfl) dX5_pairs_52 rfl rfl (Nat.le_of_ble_eq_true rfl) (by decide) (fun m4 hp4 => ?_)
    refine z_iload_n C dX5_pairs_55 1 rfl ?_
    refine z_iconst C dX5_pairs_56 ?_
    refine z_icmp_ne C dX5_pairs_57 (tgt := 70) (by decide) (by omega) (by decide) (fun c5 => (by exfalso; omega)) (fun _ => ?_)
    refine z_aload_n C dX5_pairs_60 0 rfl ?_
    refine z_getR C ffX5_43 dX5_pairs_61 (by decide) rfl rfl ?_
    refine z_callVi C (c_X1_howMany (zl X) m4 (sPb (sVl v (vW v))) (fun p p0 p1 => ⟨hp4.1 p p0 (by omega), sPbN_b _ p 5 (by omega)⟩)) yyX1_howMany mlX5_155 (zRc_of (i := 22) C (by decide) rfl rfl) dX5_pairs_64 rfl rfl (Nat.le_of_ble_eq_true rfl) (by decide) (fun r6 m6 hr6 hp6 => ?_)
    obtain ⟨rfl, hp6⟩ := hp6
    have hU := sPr_b ho (vW v)
    have hX : r6 = sPr v (vW v) := hp6
    rw [hX]
    refine z_goto C dX5_pairs_67 (tgt := 79) (by decide) ?_
    exact E dX5_pairs_79 (by omega) rfl (t_fin (P := zCl) (show tPairs s p = ((sPr v (vW v)), s) by unfold tPairs; (first | rw [hgv] | skip); repeat (first | rw [if_pos (by omega)] | rw [if_neg (by omega)])) (zCl_fr hs (fun a _ => by rw [hp4.2 a (by omega), hp2.2 a (by omega) (by omega) (by omega)])) (fun a _ _ => by rw [hp4.2 a (by omega), hp2.2 a (by omega) (by omega) (by omega)]))
  · refine z_aload_n C dX5_pairs_5 0 rfl ?_
    refine z_getR C ffX5_10 dX5_pairs_6 (by decide) rfl rfl ?_
    refine z_iload_n C dX5_pairs_9 1 rfl ?_
    refine z_callVi C (c_X4_isThere (zl X) μ 1 (Or.inl rfl) v hv ho p (by omega)) yyX4_isThere mlX5_94 (zRc_of (i := 1) C (by decide) rfl rfl) dX5_pairs_10 rfl rfl (Nat.le_of_ble_eq_true rfl) (by decide) (fun r7 m7 hr7 hp7 => ?_)
    obtain ⟨rfl, hp7⟩ := hp7
    rcases hp7 with ⟨rfl, hp7⟩ | ⟨rfl, hp7⟩
    · refine z_if_ne C dX5_pairs_13 (tgt := 22) (by decide) (by decide) (fun _ => ?_) (fun c8 => (by exfalso; omega))
      refine z_aload_n C dX5_pairs_22 0 rfl ?_
      refine z_getR C ffX5_36 dX5_pairs_23 (by decide) rfl rfl ?_
      refine z_aload_n C dX5_pairs_26 0 rfl ?_
      refine z_getR C ffX5_10 dX5_pairs_27 (by decide) rfl rfl ?_
      refine z_callVv C (c_X2_hold (zl X) μ 1 (Or.inl rfl) v hv ho) yyX2_hold mlX5_104 (zRc_of (i := 18) C (by decide) rfl rfl) dX5_pairs_30 rfl rfl (Nat.le_of_ble_eq_true rfl) (by decide) (fun m9 hp9 => ?_)
      refine z_aload_n C dX5_pairs_33 0 rfl ?_
      refine z_getR C ffX5_43 dX5_pairs_34 (by decide) rfl rfl ?_
      refine z_aload_n C dX5_pairs_37 0 rfl ?_
      refine z_getR C ffX5_10 dX5_pairs_38 (by decide) rfl rfl ?_
      refine z_aload_n C dX5_pairs_41 0 rfl ?_
      refine z_getR C ffX5_36 dX5_pairs_42 (by decide) rfl rfl ?_
      refine z_aload_n C dX5_pairs_45 0 rfl ?_
      refine z_getR C ffX5_10 dX5_pairs_46 (by decide) rfl rfl ?_
      refine z_getI C ffX5_131 dX5_pairs_49 (by decide) rfl rfl 6 rfl (fun hr10 => ?_)
      rw [show m9 1 6 = vW v by rw [hp9.2 1 (by omega) (by omega) (by omega)]; exact hv5]
      refine z_callVv C (c_X1_settle (zl X) m9 1 (Or.inl rfl) v (zT_fr hv (fun a _ _ => by rw [hp9.2 a (by omega) (by omega) (by omega)])) ho hp9.1 (vW v) (by omega)) yyX1_settle mlX5_151 (zRc_of (i := 22) C (by decide) rfl rfl) dX5_pairs_52 rfl rfl (Nat.le_of_ble_eq_true rfl) (by decide) (fun m11 hp11 => ?_)
      refine z_iload_n C dX5_pairs_55 1 rfl ?_
      refine z_iconst C dX5_pairs_56 ?_
      refine z_icmp_ne C dX5_pairs_57 (tgt := 70) (by decide) (by omega) (by decide) (fun _ => ?_) (fun c12 => (by exfalso; omega))
      refine z_aload_n C dX5_pairs_70 0 rfl ?_
      refine z_getR C ffX5_43 dX5_pairs_71 (by decide) rfl rfl ?_
      refine z_getR C ffX5_158 dX5_pairs_74 (by decide) rfl rfl ?_
      refine z_iload_n C dX5_pairs_77 1 rfl ?_
      refine z_iald C dX5_pairs_78 (by decide) rfl (by omega) (by decide) (fun hr13 => ?_)
      rw [hp11.1 p (by omega) (by omega)]
      have hU : 0 ≤ sPb (sVl v (vW v)) p ∧ sPb (sVl v (vW v)) p < 32 := sPbN_b _ p 5 (by omega)
      exact E dX5_pairs_79 (by omega) rfl (t_fin (P := zCl) (show tPairs s p = ((sPb (sVl v (vW v)) p), s) by unfold tPairs; (first | rw [hgv] | skip); repeat (first | rw [if_pos (by omega)] | rw [if_neg (by omega)])) (zCl_fr hs (fun a _ => by rw [hp11.2 a (by omega), hp9.2 a (by omega) (by omega) (by omega)])) (fun a _ _ => by rw [hp11.2 a (by omega), hp9.2 a (by omega) (by omega) (by omega)]))
    · refine z_if_ne C dX5_pairs_13 (tgt := 22) (by decide) (by decide) (fun c14 => (by exfalso; omega)) (fun _ => ?_)
      refine z_aload_n C dX5_pairs_16 0 rfl ?_
      refine z_iconst C dX5_pairs_17 ?_
      refine z_callVi C (c_X5_refuse (zl X) μ 1 (by omega)) yyX5_refuse mlX5_65 (zRc_of (i := 0) C (by decide) rfl rfl) dX5_pairs_18 rfl rfl (Nat.le_of_ble_eq_true rfl) (by decide) (fun r15 m15 hr15 hp15 => ?_)
      rw [hp15.1]
      exact E dX5_pairs_21 (by decide) rfl (t_fin (P := zCl) (show tPairs s p = ((-1), (pF s 1)) by unfold tPairs; (first | rw [hgv] | skip); repeat (first | rw [if_pos (by omega)] | rw [if_neg (by omega)])) (by rw [hp15.2]; exact zCl_F hs (by omega)) (fun a _ _ => by rw [hp15.2, zs_ne _ _ _ (by omega)]))
set_option maxHeartbeats 4000000 in
theorem c_X5_glad (l : Launch) (μ : zM) (s : zS) (hs : zCl μ s) (hso : sOK s) (w k : Int) (hwr : zR w) (hkr : zR k) : zMi l yX5_glad cX5_glad 3 (.int) 5 124 [.inr 0, .inl w, .inl k] μ (fun (r : Int) (m : zM) => r = (tGlad s w k).1 ∧ zCl m (tGlad s w k).2 ∧ ∀ a, 31 ≤ a → a < 48 → m a = μ a) := by
  refine zMi_of (own := RX5) (by decide +kernel) rfl (Nat.le_of_ble_eq_true rfl) ?_
  intro X hX C hrm E
  subst hX
  show zJ X 3 μ 0 [(0, .inr 0), (1, .inl w), (2, .inl k)] []
  obtain ⟨hv, hk, hi, hl, hm, hw, hf⟩ := id hs
  obtain ⟨ho, hok, hoi, hon, hot, hom, how⟩ := id hso
  generalize hgv : gV s = v at hv ho
  obtain ⟨hv1, hv2, hv3, hv4, hv5, hv6, hv7⟩ := id hv
  obtain ⟨ho1, ho2, ho3, ho4, ho5, ho6, ho7⟩ := id ho
  have hN := vN_ok ho
  refine z_iload_n C dX5_glad_0 1 rfl ?_
  refine z_callSi C (c_X5_isLaw (zl X) μ w (by omega)) yyX5_isLaw mlX5_128 dX5_glad_1 rfl rfl (Nat.le_of_ble_eq_true rfl) (by decide) (fun r1 m1 hr1 hp1 => ?_)
  obtain ⟨rfl, hp1⟩ := hp1
  rcases hp1 with ⟨rfl, hp1⟩ | ⟨rfl, hp1⟩
  · refine z_if_eq C dX5_glad_4 (tgt := 16) (by decide) (by decide) (fun c2 => (by exfalso; omega)) (fun _ => ?_)
    refine z_iload_n C dX5_glad_7 2 rfl ?_
    refine z_if_lt C dX5_glad_8 (tgt := 16) (by decide) (by omega) (fun c3 => ?_) (fun c3 => ?_)
    · refine z_aload_n C dX5_glad_16 0 rfl ?_
      refine z_bipush C dX5_glad_17 (by decide) ?_
      refine z_callVi C (c_X5_refuse (zl X) μ 2 (by omega)) yyX5_refuse mlX5_65 (zRc_of (i := 0) C (by decide) rfl rfl) dX5_glad_19 rfl rfl (Nat.le_of_ble_eq_true rfl) (by decide) (fun r4 m4 hr4 hp4 => ?_)
      rw [hp4.1]
      exact E dX5_glad_22 (by decide) rfl (t_fin (P := zCl) (show tGlad s w k = ((-2), (pF s 2)) by unfold tGlad; (first | rw [hgv] | skip); repeat (first | rw [if_pos (by omega)] | rw [if_neg (by omega)])) (by rw [hp4.2]; exact zCl_F hs (by omega)) (fun a _ _ => by rw [hp4.2, zs_ne _ _ _ (by omega)]))
    · refine z_iload_n C dX5_glad_11 2 rfl ?_
      refine z_iconst C dX5_glad_12 ?_
      refine z_icmp_le C dX5_glad_13 (tgt := 23) (by decide) (by omega) (by decide) (fun c5 => ?_) (fun c5 => ?_)
      · refine z_aload_n C dX5_glad_23 0 rfl ?_
        refine z_getR C ffX5_36 dX5_glad_24 (by decide) rfl rfl ?_
        refine z_aload_n C dX5_glad_27 0 rfl ?_
        refine z_getR C ffX5_10 dX5_glad_28 (by decide) rfl rfl ?_
        refine z_callVv C (c_X2_hold (zl X) μ 1 (Or.inl rfl) v hv ho) yyX2_hold mlX5_104 (zRc_of (i := 18) C (by decide) rfl rfl) dX5_glad_31 rfl rfl (Nat.le_of_ble_eq_true rfl) (by decide) (fun m6 hp6 => ?_)
        refine z_aload_n C dX5_glad_34 0 rfl ?_
        refine z_getR C ffX5_43 dX5_glad_35 (by decide) rfl rfl ?_
        refine z_aload_n C dX5_glad_38 0 rfl ?_
        refine z_getR C ffX5_10 dX5_glad_39 (by decide) rfl rfl ?_
        refine z_aload_n C dX5_glad_42 0 rfl ?_
        refine z_getR C ffX5_36 dX5_glad_43 (by decide) rfl rfl ?_
        refine z_iload_n C dX5_glad_46 1 rfl ?_
        refine z_callVv C (c_X1_settle (zl X) m6 1 (Or.inl rfl) v (zT_fr hv (fun a _ _ => by rw [hp6.2 a (by omega) (by omega) (by omega)])) ho hp6.1 w (by omega)) yyX1_settle mlX5_151 (zRc_of (i := 22) C (by decide) rfl rfl) dX5_glad_47 rfl rfl (Nat.le_of_ble_eq_true rfl) (by decide) (fun m7 hp7 => ?_)
        refine z_iload_n C dX5_glad_50 2 rfl ?_
        refine z_if_ne C dX5_glad_51 (tgt := 64) (by decide) (by omega) (fun c8 => ?_) (fun c8 => ?_)
        · refine z_aload_n C dX5_glad_64 0 rfl ?_
          refine z_getR C ffX5_43 dX5_glad_65 (by decide) rfl rfl ?_
          refine z_aload_n C dX5_glad_68 0 rfl ?_
          refine z_getR C ffX5_10 dX5_glad_69 (by decide) rfl rfl ?_
          refine z_callVi C (c_X1_gladness (zl X) m7 1 (Or.inl rfl) v (zT_fr hv (fun a _ _ => by rw [hp7.2 a (by omega), hp6.2 a (by omega) (by omega) (by omega)])) ho (sPb (sVl v w)) (fun p p0 p1 => ⟨hp7.1 p p0 (by omega), sPbN_b _ p 5 (by omega)⟩)) yyX1_gladness mlX5_161 (zRc_of (i := 22) C (by decide) rfl rfl) dX5_glad_72 rfl rfl (Nat.le_of_ble_eq_true rfl) (by decide) (fun r9 m9 hr9 hp9 => ?_)
          obtain ⟨rfl, hp9⟩ := hp9
          rw [hp9]
          have hU := sGl_b ho (sPb (sVl v w)) 5 (by omega)
          exact E dX5_glad_75 (by first | omega | (unfold sGlad; omega)) rfl (t_fin (P := zCl) (show tGlad s w k = ((sGlad v (sPb (sVl v w))), s) by unfold tGlad; (first | rw [hgv] | skip); repeat (first | rw [if_pos (by omega)] | rw [if_neg (by omega)])) (zCl_fr hs (fun a _ => by rw [hp7.2 a (by omega), hp6.2 a (by omega) (by omega) (by omega)])) (fun a _ _ => by rw [hp7.2 a (by omega), hp6.2 a (by omega) (by omega) (by omega)]))
        · refine z_aload_n C dX5_glad_54 0 rfl ?_
          refine z_getR C ffX5_43 dX5_glad_55 (by decide) rfl rfl ?_
          refine z_callVi C (c_X1_howMany (zl X) m7 (sPb (sVl v w)) (fun p p0 p1 => ⟨hp7.1 p p0 (by omega), sPbN_b _ p 5 (by omega)⟩)) yyX1_howMany mlX5_155 (zRc_of (i := 22) C (by decide) rfl rfl) dX5_glad_58 rfl rfl (Nat.le_of_ble_eq_true rfl) (by decide) (fun r10 m10 hr10 hp10 => ?_)
          obtain ⟨rfl, hp10⟩ := hp10
          have hU := sPr_b ho w
          have hX : r10 = sPr v w := hp10
          rw [hX]
          refine z_goto C dX5_glad_61 (tgt := 75) (by decide) ?_
          exact E dX5_glad_75 (by first | omega | (unfold sGlad; omega)) rfl (t_fin (P := zCl) (show tGlad s w k = ((sPr v w), s) by unfold tGlad; (first | rw [hgv] | skip); repeat (first | rw [if_pos (by omega)] | rw [if_neg (by omega)])) (zCl_fr hs (fun a _ => by rw [hp7.2 a (by omega), hp6.2 a (by omega) (by omega) (by omega)])) (fun a _ _ => by rw [hp7.2 a (by omega), hp6.2 a (by omega) (by omega) (by omega)]))
      · refine z_aload_n C dX5_glad_16 0 rfl ?_
        refine z_bipush C dX5_glad_17 (by decide) ?_
        refine z_callVi C (c_X5_refuse (zl X) μ 2 (by omega)) yyX5_refuse mlX5_65 (zRc_of (i := 0) C (by decide) rfl rfl) dX5_glad_19 rfl rfl (Nat.le_of_ble_eq_true rfl) (by decide) (fun r11 m11 hr11 hp11 => ?_)
        rw [hp11.1]
        exact E dX5_glad_22 (by decide) rfl (t_fin (P := zCl) (show tGlad s w k = ((-2), (pF s 2)) by unfold tGlad; (first | rw [hgv] | skip); repeat (first | rw [if_pos (by omega)] | rw [if_neg (by omega)])) (by rw [hp11.2]; exact zCl_F hs (by omega)) (fun a _ _ => by rw [hp11.2, zs_ne _ _ _ (by omega)]))
  · refine z_if_eq C dX5_glad_4 (tgt := 16) (by decide) (by decide) (fun _ => ?_) (fun c12 => (by exfalso; omega))
    refine z_aload_n C dX5_glad_16 0 rfl ?_
    refine z_bipush C dX5_glad_17 (by decide) ?_
    refine z_callVi C (c_X5_refuse (zl X) μ 2 (by omega)) yyX5_refuse mlX5_65 (zRc_of (i := 0) C (by decide) rfl rfl) dX5_glad_19 rfl rfl (Nat.le_of_ble_eq_true rfl) (by decide) (fun r13 m13 hr13 hp13 => ?_)
    rw [hp13.1]
    exact E dX5_glad_22 (by decide) rfl (t_fin (P := zCl) (show tGlad s w k = ((-2), (pF s 2)) by unfold tGlad; (first | rw [hgv] | skip); repeat (first | rw [if_pos (by omega)] | rw [if_neg (by omega)])) (by rw [hp13.2]; exact zCl_F hs (by omega)) (fun a _ _ => by rw [hp13.2, zs_ne _ _ _ (by omega)]))
set_option maxHeartbeats 4000000 in
theorem c_X5_shaded (l : Launch) (μ : zM) (s : zS) (hs : zCl μ s) (hso : sOK s) : zMi l yX5_shaded cX5_shaded 1 (.int) 5 120 [.inr 0] μ (fun (r : Int) (m : zM) => r = (tShaded s).1 ∧ zCl m (tShaded s).2 ∧ ∀ a, 31 ≤ a → a < 48 → m a = μ a) := by
  refine zMi_of (own := RX5) (by decide +kernel) rfl (Nat.le_of_ble_eq_true rfl) ?_
  intro X hX C hrm E
  subst hX
  show zJ X 1 μ 0 [(0, .inr 0)] []
  obtain ⟨hv, hk, hi, hl, hm, hw, hf⟩ := id hs
  obtain ⟨ho, hok, hoi, hon, hot, hom, how⟩ := id hso
  generalize hgv : gV s = v at hv ho
  obtain ⟨hv1, hv2, hv3, hv4, hv5, hv6, hv7⟩ := id hv
  obtain ⟨ho1, ho2, ho3, ho4, ho5, ho6, ho7⟩ := id ho
  have hN := vN_ok ho
  refine z_aload_n C dX5_shaded_0 0 rfl ?_
  refine z_getR C ffX5_36 dX5_shaded_1 (by decide) rfl rfl ?_
  refine z_aload_n C dX5_shaded_4 0 rfl ?_
  refine z_getR C ffX5_10 dX5_shaded_5 (by decide) rfl rfl ?_
  refine z_callVv C (c_X2_hold (zl X) μ 1 (Or.inl rfl) v hv ho) yyX2_hold mlX5_104 (zRc_of (i := 18) C (by decide) rfl rfl) dX5_shaded_8 rfl rfl (Nat.le_of_ble_eq_true rfl) (by decide) (fun m1 hp1 => ?_)
  refine z_aload_n C dX5_shaded_11 0 rfl ?_
  refine z_getR C ffX5_36 dX5_shaded_12 (by decide) rfl rfl ?_
  refine z_getI C ffX5_164 dX5_shaded_15 (by decide) rfl rfl 3 rfl (fun hr2 => ?_)
  rw [hp1.1.2.1]
  have hU := sSh_b v 10
  exact E dX5_shaded_18 (by omega) rfl (t_fin (P := zCl) (show tShaded s = (sSh v 10, s) by unfold tShaded; (first | rw [hgv] | skip); repeat (first | rw [if_pos (by omega)] | rw [if_neg (by omega)])) (zCl_fr hs (fun a _ => by rw [hp1.2 a (by omega) (by omega) (by omega)])) (fun a _ _ => by rw [hp1.2 a (by omega) (by omega) (by omega)]))
