/-! contracts: Rounds, what one meets and feels -/
set_option maxHeartbeats 4000000 in
theorem c_X2_partner (l : Launch) (μ : zM) (t : Nat) (ht : zTo t) (v : zVw) (hv : zT μ t v) (ho : vOK v) (p k : Int) (hp : vTh v p) (hk : 0 ≤ k ∧ k < 5) (h18 : μ 18 4 = vN v) : zMi l yX2_partner cX2_partner 7 (.int) 2 41 [.inr 18, .inr t, .inl p, .inl k] μ (fun (r : Int) (m : zM) => μ = m ∧ r = sPar v p k) := by
  refine zMi_of (own := RX2) (by decide +kernel) rfl (Nat.le_of_ble_eq_true rfl) ?_
  intro X hX C hrm E
  subst hX
  show zJ X 7 μ 0 [(0, .inr 18), (1, .inr t), (2, .inl p), (3, .inl k)] []
  obtain ⟨hv1, hv2, hv3, hv4, hv5, hv6, hv7⟩ := id hv
  obtain ⟨ho1, ho2, ho3, ho4, ho5, ho6, ho7⟩ := id ho
  obtain ⟨n1, n2, n3, n4⟩ := vN_ok ho
  have hm := zmulb (k := k) (s := μ t 4) (by omega) (by omega)
  refine z_aload_n C dX2_partner_0 0 rfl ?_
  refine z_getI C ffX2_27 dX2_partner_1 (by decide) rfl rfl 4 rfl (fun hr1 => ?_)
  refine z_iconst C dX2_partner_4 ?_
  refine z_icmp_lt C dX2_partner_5 (tgt := 16) (by decide) (by omega) (by decide) (fun c2 => ?_) (fun c2 => ?_)
  · refine z_bipush C dX2_partner_16 (by decide) ?_
    exact E dX2_partner_18 (by decide) rfl ⟨rfl, (by unfold sPar sMet; (first | (rw [ea]) | (rw [eb]) | skip); split <;> (try split) <;> (try split) <;> omega)⟩
  · refine z_iload_n C dX2_partner_8 3 rfl ?_
    refine z_aload_n C dX2_partner_9 0 rfl ?_
    refine z_getI C ffX2_27 dX2_partner_10 (by decide) rfl rfl 4 rfl (fun hr3 => ?_)
    refine z_icmp_lt C dX2_partner_13 (tgt := 19) (by decide) (by omega) (by omega) (fun c4 => ?_) (fun c4 => ?_)
    · refine z_aload_n C dX2_partner_19 1 rfl ?_
      refine z_getI C ffX2_48 dX2_partner_20 (by have := zto_lt ht; omega) (zd_to0 ht) rfl 5 rfl (fun hr5 => ?_)
      refine z_iload_n C dX2_partner_23 3 rfl ?_
      refine z_aload_n C dX2_partner_24 1 rfl ?_
      refine z_getI C ffX2_51 dX2_partner_25 (by have := zto_lt ht; omega) (zd_to0 ht) rfl 4 rfl (fun hr6 => ?_)
      refine z_imul C dX2_partner_28 ?_
      refine z_iadd C dX2_partner_29 ?_
      refine z_istore C dX2_partner_30 (by decide) (L' := [(0, _), (1, _), (2, _), (3, _), (4, _)]) rfl ?_
      refine z_iload_n C dX2_partner_32 2 rfl ?_
      refine z_callNi C (c_X5_sideOf (zl X) μ p (by omega)) yyX5_sideOf (by decide +kernel) dX2_partner_33 rfl rfl (Nat.le_of_ble_eq_true rfl) (by decide) (fun r7 m7 hr7 hp7 => ?_)
      obtain ⟨rfl, hp7⟩ := hp7
      rcases hp7 with ⟨hp7, rfl⟩ | ⟨hp7, rfl⟩
      · refine z_if_ne C dX2_partner_36 (tgt := 46) (by decide) (by decide) (fun c8 => (by exfalso; omega)) (fun _ => ?_)
        refine z_iload_n C dX2_partner_39 2 rfl ?_
        refine z_iload C dX2_partner_40 4 rfl ?_
        refine z_iadd C dX2_partner_42 ?_
        refine z_goto C dX2_partner_43 (tgt := 52) (by decide) ?_
        refine z_istore C dX2_partner_52 (by decide) (L' := [(0, _), (1, _), (2, _), (3, _), (4, _), (5, _)]) rfl ?_
        refine z_iload_n C dX2_partner_54 2 rfl ?_
        refine z_callNi C (c_X5_otherStart (zl X) μ p (by omega)) yyX5_otherStart (by decide +kernel) dX2_partner_55 rfl rfl (Nat.le_of_ble_eq_true rfl) (by decide) (fun r9 m9 hr9 hp9 => ?_)
        obtain ⟨rfl, hp9⟩ := hp9
        rcases hp9 with ⟨hp9, rfl⟩ | ⟨hp9, rfl⟩
        · refine z_iload C dX2_partner_58 5 rfl ?_
          refine z_aload_n C dX2_partner_60 0 rfl ?_
          refine z_getI C ffX2_27 dX2_partner_61 (by decide) rfl rfl 4 rfl (fun hr10 => ?_)
          refine z_callSi C (c_J9_floorMod_7cf53 (zl X) μ (p + ((μ t 5) + (k * (μ t 4)))) (μ 18 4) (by omega) (by omega)) yyJ9_floorMod_7cf53 mlX2_61 dX2_partner_64 rfl rfl (Nat.le_of_ble_eq_true rfl) (by decide) (fun r11 m11 hr11 hp11 => ?_)
          obtain ⟨rfl, hp11⟩ := hp11
          have hb11 : 0 ≤ r11 ∧ r11 < vN v := by rw [hp11, h18]; exact zmodb (by omega)
          have ea : (p + sAl v k) % vN v = r11 := by first | (exfalso; omega) | (rw [hp11, h18, hv3, hv4]; rfl)
          refine z_iadd C dX2_partner_67 ?_
          refine z_istore C dX2_partner_68 (by decide) (L' := [(0, _), (1, _), (2, _), (3, _), (4, _), (5, _), (6, _)]) rfl ?_
          refine z_aload_n C dX2_partner_70 1 rfl ?_
          refine z_iload C dX2_partner_71 6 rfl ?_
          refine z_callVi C (c_X4_isThere (zl X) μ t ht v hv ho (5 + r11) (by omega)) yyX4_isThere mlX2_36 (zRc_of (i := t) C (by have := zto_lt ht; omega) (zd_to0 ht) rfl) dX2_partner_73 rfl rfl (Nat.le_of_ble_eq_true rfl) (by decide) (fun r12 m12 hr12 hp12 => ?_)
          obtain ⟨rfl, hp12⟩ := hp12
          rcases hp12 with ⟨rfl, hp12⟩ | ⟨rfl, hp12⟩
          · refine z_if_eq C dX2_partner_76 (tgt := 84) (by decide) (by decide) (fun c13 => (by exfalso; omega)) (fun _ => ?_)
            refine z_iload C dX2_partner_79 6 rfl ?_
            refine z_goto C dX2_partner_81 (tgt := 86) (by decide) ?_
            exact E dX2_partner_86 (by omega) rfl ⟨rfl, (by unfold sPar sMet; (first | (rw [ea]) | (rw [eb]) | skip); split <;> (try split) <;> (try split) <;> omega)⟩
          · refine z_if_eq C dX2_partner_76 (tgt := 84) (by decide) (by decide) (fun _ => ?_) (fun c14 => (by exfalso; omega))
            refine z_bipush C dX2_partner_84 (by decide) ?_
            exact E dX2_partner_86 (by decide) rfl ⟨rfl, (by unfold sPar sMet; (first | (rw [ea]) | (rw [eb]) | skip); split <;> (try split) <;> (try split) <;> omega)⟩
        · refine z_iload C dX2_partner_58 5 rfl ?_
          refine z_aload_n C dX2_partner_60 0 rfl ?_
          refine z_getI C ffX2_27 dX2_partner_61 (by decide) rfl rfl 4 rfl (fun hr15 => ?_)
          refine z_callSi C (c_J9_floorMod_7cf53 (zl X) μ (p + ((μ t 5) + (k * (μ t 4)))) (μ 18 4) (by omega) (by omega)) yyJ9_floorMod_7cf53 mlX2_61 dX2_partner_64 rfl rfl (Nat.le_of_ble_eq_true rfl) (by decide) (fun r16 m16 hr16 hp16 => ?_)
          obtain ⟨rfl, hp16⟩ := hp16
          have hb16 : 0 ≤ r16 ∧ r16 < vN v := by rw [hp16, h18]; exact zmodb (by omega)
          have eb : (p - 5 - sAl v k) % vN v = r16 := by first | (exfalso; omega) | (rw [hp16, h18, hv3, hv4]; rfl)
          refine z_iadd C dX2_partner_67 ?_
          refine z_istore C dX2_partner_68 (by decide) (L' := [(0, _), (1, _), (2, _), (3, _), (4, _), (5, _), (6, _)]) rfl ?_
          refine z_aload_n C dX2_partner_70 1 rfl ?_
          refine z_iload C dX2_partner_71 6 rfl ?_
          refine z_callVi C (c_X4_isThere (zl X) μ t ht v hv ho (0 + r16) (by omega)) yyX4_isThere mlX2_36 (zRc_of (i := t) C (by have := zto_lt ht; omega) (zd_to0 ht) rfl) dX2_partner_73 rfl rfl (Nat.le_of_ble_eq_true rfl) (by decide) (fun r17 m17 hr17 hp17 => ?_)
          obtain ⟨rfl, hp17⟩ := hp17
          rcases hp17 with ⟨rfl, hp17⟩ | ⟨rfl, hp17⟩
          · refine z_if_eq C dX2_partner_76 (tgt := 84) (by decide) (by decide) (fun c18 => (by exfalso; omega)) (fun _ => ?_)
            refine z_iload C dX2_partner_79 6 rfl ?_
            refine z_goto C dX2_partner_81 (tgt := 86) (by decide) ?_
            exact E dX2_partner_86 (by omega) rfl ⟨rfl, (by unfold sPar sMet; (first | (rw [ea]) | (rw [eb]) | skip); split <;> (try split) <;> (try split) <;> omega)⟩
          · refine z_if_eq C dX2_partner_76 (tgt := 84) (by decide) (by decide) (fun _ => ?_) (fun c19 => (by exfalso; omega))
            refine z_bipush C dX2_partner_84 (by decide) ?_
            exact E dX2_partner_86 (by decide) rfl ⟨rfl, (by unfold sPar sMet; (first | (rw [ea]) | (rw [eb]) | skip); split <;> (try split) <;> (try split) <;> omega)⟩
      · refine z_if_ne C dX2_partner_36 (tgt := 46) (by decide) (by decide) (fun _ => ?_) (fun c20 => (by exfalso; omega))
        refine z_iload_n C dX2_partner_46 2 rfl ?_
        refine z_iconst C dX2_partner_47 ?_
        refine z_isub C dX2_partner_48 ?_
        refine z_iload C dX2_partner_49 4 rfl ?_
        refine z_isub C dX2_partner_51 ?_
        refine z_istore C dX2_partner_52 (by decide) (L' := [(0, _), (1, _), (2, _), (3, _), (4, _), (5, _)]) rfl ?_
        refine z_iload_n C dX2_partner_54 2 rfl ?_
        refine z_callNi C (c_X5_otherStart (zl X) μ p (by omega)) yyX5_otherStart (by decide +kernel) dX2_partner_55 rfl rfl (Nat.le_of_ble_eq_true rfl) (by decide) (fun r21 m21 hr21 hp21 => ?_)
        obtain ⟨rfl, hp21⟩ := hp21
        rcases hp21 with ⟨hp21, rfl⟩ | ⟨hp21, rfl⟩
        · refine z_iload C dX2_partner_58 5 rfl ?_
          refine z_aload_n C dX2_partner_60 0 rfl ?_
          refine z_getI C ffX2_27 dX2_partner_61 (by decide) rfl rfl 4 rfl (fun hr22 => ?_)
          refine z_callSi C (c_J9_floorMod_7cf53 (zl X) μ ((p - 5) - ((μ t 5) + (k * (μ t 4)))) (μ 18 4) (by omega) (by omega)) yyJ9_floorMod_7cf53 mlX2_61 dX2_partner_64 rfl rfl (Nat.le_of_ble_eq_true rfl) (by decide) (fun r23 m23 hr23 hp23 => ?_)
          obtain ⟨rfl, hp23⟩ := hp23
          have hb23 : 0 ≤ r23 ∧ r23 < vN v := by rw [hp23, h18]; exact zmodb (by omega)
          have ea : (p + sAl v k) % vN v = r23 := by first | (exfalso; omega) | (rw [hp23, h18, hv3, hv4]; rfl)
          refine z_iadd C dX2_partner_67 ?_
          refine z_istore C dX2_partner_68 (by decide) (L' := [(0, _), (1, _), (2, _), (3, _), (4, _), (5, _), (6, _)]) rfl ?_
          refine z_aload_n C dX2_partner_70 1 rfl ?_
          refine z_iload C dX2_partner_71 6 rfl ?_
          refine z_callVi C (c_X4_isThere (zl X) μ t ht v hv ho (5 + r23) (by omega)) yyX4_isThere mlX2_36 (zRc_of (i := t) C (by have := zto_lt ht; omega) (zd_to0 ht) rfl) dX2_partner_73 rfl rfl (Nat.le_of_ble_eq_true rfl) (by decide) (fun r24 m24 hr24 hp24 => ?_)
          obtain ⟨rfl, hp24⟩ := hp24
          rcases hp24 with ⟨rfl, hp24⟩ | ⟨rfl, hp24⟩
          · refine z_if_eq C dX2_partner_76 (tgt := 84) (by decide) (by decide) (fun c25 => (by exfalso; omega)) (fun _ => ?_)
            refine z_iload C dX2_partner_79 6 rfl ?_
            refine z_goto C dX2_partner_81 (tgt := 86) (by decide) ?_
            exact E dX2_partner_86 (by omega) rfl ⟨rfl, (by unfold sPar sMet; (first | (rw [ea]) | (rw [eb]) | skip); split <;> (try split) <;> (try split) <;> omega)⟩
          · refine z_if_eq C dX2_partner_76 (tgt := 84) (by decide) (by decide) (fun _ => ?_) (fun c26 => (by exfalso; omega))
            refine z_bipush C dX2_partner_84 (by decide) ?_
            exact E dX2_partner_86 (by decide) rfl ⟨rfl, (by unfold sPar sMet; (first | (rw [ea]) | (rw [eb]) | skip); split <;> (try split) <;> (try split) <;> omega)⟩
        · refine z_iload C dX2_partner_58 5 rfl ?_
          refine z_aload_n C dX2_partner_60 0 rfl ?_
          refine z_getI C ffX2_27 dX2_partner_61 (by decide) rfl rfl 4 rfl (fun hr27 => ?_)
          refine z_callSi C (c_J9_floorMod_7cf53 (zl X) μ ((p - 5) - ((μ t 5) + (k * (μ t 4)))) (μ 18 4) (by omega) (by omega)) yyJ9_floorMod_7cf53 mlX2_61 dX2_partner_64 rfl rfl (Nat.le_of_ble_eq_true rfl) (by decide) (fun r28 m28 hr28 hp28 => ?_)
          obtain ⟨rfl, hp28⟩ := hp28
          have hb28 : 0 ≤ r28 ∧ r28 < vN v := by rw [hp28, h18]; exact zmodb (by omega)
          have eb : (p - 5 - sAl v k) % vN v = r28 := by first | (exfalso; omega) | (rw [hp28, h18, hv3, hv4]; rfl)
          refine z_iadd C dX2_partner_67 ?_
          refine z_istore C dX2_partner_68 (by decide) (L' := [(0, _), (1, _), (2, _), (3, _), (4, _), (5, _), (6, _)]) rfl ?_
          refine z_aload_n C dX2_partner_70 1 rfl ?_
          refine z_iload C dX2_partner_71 6 rfl ?_
          refine z_callVi C (c_X4_isThere (zl X) μ t ht v hv ho (0 + r28) (by omega)) yyX4_isThere mlX2_36 (zRc_of (i := t) C (by have := zto_lt ht; omega) (zd_to0 ht) rfl) dX2_partner_73 rfl rfl (Nat.le_of_ble_eq_true rfl) (by decide) (fun r29 m29 hr29 hp29 => ?_)
          obtain ⟨rfl, hp29⟩ := hp29
          rcases hp29 with ⟨rfl, hp29⟩ | ⟨rfl, hp29⟩
          · refine z_if_eq C dX2_partner_76 (tgt := 84) (by decide) (by decide) (fun c30 => (by exfalso; omega)) (fun _ => ?_)
            refine z_iload C dX2_partner_79 6 rfl ?_
            refine z_goto C dX2_partner_81 (tgt := 86) (by decide) ?_
            exact E dX2_partner_86 (by omega) rfl ⟨rfl, (by unfold sPar sMet; (first | (rw [ea]) | (rw [eb]) | skip); split <;> (try split) <;> (try split) <;> omega)⟩
          · refine z_if_eq C dX2_partner_76 (tgt := 84) (by decide) (by decide) (fun _ => ?_) (fun c31 => (by exfalso; omega))
            refine z_bipush C dX2_partner_84 (by decide) ?_
            exact E dX2_partner_86 (by decide) rfl ⟨rfl, (by unfold sPar sMet; (first | (rw [ea]) | (rw [eb]) | skip); split <;> (try split) <;> (try split) <;> omega)⟩
    · refine z_bipush C dX2_partner_16 (by decide) ?_
      exact E dX2_partner_18 (by decide) rfl ⟨rfl, (by unfold sPar sMet; (first | (rw [ea]) | (rw [eb]) | skip); split <;> (try split) <;> (try split) <;> omega)⟩
set_option maxHeartbeats 4000000 in
theorem c_X2_wasAlone (l : Launch) (μ : zM) (v : zVw) (p k : Int) (hp : 0 ≤ p ∧ p < 10) (hk : 0 ≤ k ∧ k < 5) (hpar : ∀ k, 0 ≤ k → k < 5 → μ (48 + p.toNat) k = sPar v p k) : zMi l yX2_wasAlone cX2_wasAlone 3 (.boolean) 0 0 [.inr 18, .inl p, .inl k] μ (fun (r : Int) (m : zM) => μ = m ∧ ((r = 1 ∧ (0 < k ∧ sPar v p (k - 1) = -9)) ∨ (r = 0 ∧ ¬ (0 < k ∧ sPar v p (k - 1) = -9)))) := by
  refine zMi_of (own := RX2) (by decide +kernel) rfl (Nat.le_of_ble_eq_true rfl) ?_
  intro X hX C hrm E
  subst hX
  show zJ X 3 μ 0 [(0, .inr 18), (1, .inl p), (2, .inl k)] []
  refine z_iload_n C dX2_wasAlone_0 2 rfl ?_
  refine z_if_le C dX2_wasAlone_1 (tgt := 23) (by decide) (by omega) (fun c1 => ?_) (fun c1 => ?_)
  · refine z_iconst C dX2_wasAlone_23 ?_
    exact E dX2_wasAlone_24 (by decide) (z_nb (Or.inl rfl)) ⟨rfl, Or.inr ⟨rfl, by omega⟩⟩
  · refine z_aload_n C dX2_wasAlone_4 0 rfl ?_
    refine z_getR C ffX2_11 dX2_wasAlone_5 (by decide) rfl rfl ?_
    refine z_iload_n C dX2_wasAlone_8 1 rfl ?_
    refine z_aald C dX2_wasAlone_9 (by decide) rfl (by omega) (by decide) ?_
    refine z_iload_n C dX2_wasAlone_10 2 rfl ?_
    skip
    refine z_iconst C dX2_wasAlone_11 ?_
    refine z_isub C dX2_wasAlone_12 ?_
    refine z_iald C dX2_wasAlone_13 (by omega) (zd_row (by omega)) (by omega) (by decide) (fun hr2 => ?_)
    rw [hpar (k - 1) (by omega) (by omega)] at *
    refine z_bipush C dX2_wasAlone_14 (by decide) ?_
    refine z_icmp_ne C dX2_wasAlone_16 (tgt := 23) (by decide) (by omega) (by decide) (fun c3 => ?_) (fun c3 => ?_)
    · refine z_iconst C dX2_wasAlone_23 ?_
      exact E dX2_wasAlone_24 (by decide) (z_nb (Or.inl rfl)) ⟨rfl, Or.inr ⟨rfl, by omega⟩⟩
    · refine z_iconst C dX2_wasAlone_19 ?_
      refine z_goto C dX2_wasAlone_20 (tgt := 24) (by decide) ?_
      exact E dX2_wasAlone_24 (by decide) (z_nb (Or.inr rfl)) ⟨rfl, Or.inl ⟨rfl, by omega⟩⟩
set_option maxHeartbeats 4000000 in
theorem c_X2_isInShade (l : Launch) (μ : zM) (t : Nat) (ht : zTo t) (v : zVw) (hv : zT μ t v) (ho : vOK v) (p z k : Int) (hp : vTh v p) (hz : 0 ≤ z ∧ z ≤ 9) (hk : 0 ≤ k ∧ k < 5) (hpar : ∀ k, 0 ≤ k → k < 5 → μ (48 + p.toNat) k = sPar v p k) : zMi l yX2_isInShade cX2_isInShade 5 (.boolean) 1 22 [.inr 18, .inr t, .inl p, .inl z, .inl k] μ (fun (r : Int) (m : zM) => μ = m ∧ ((r = 1 ∧ (0 < k ∧ ¬ sPar v p (k - 1) = -9 ∧ z < vA v p (sPar v p (k - 1)))) ∨ (r = 0 ∧ ¬ (0 < k ∧ ¬ sPar v p (k - 1) = -9 ∧ z < vA v p (sPar v p (k - 1)))))) := by
  refine zMi_of (own := RX2) (by decide +kernel) rfl (Nat.le_of_ble_eq_true rfl) ?_
  intro X hX C hrm E
  subst hX
  show zJ X 5 μ 0 [(0, .inr 18), (1, .inr t), (2, .inl p), (3, .inl z), (4, .inl k)] []
  obtain ⟨hv1, hv2, hv3, hv4, hv5, hv6, hv7⟩ := id hv
  obtain ⟨ho1, ho2, ho3, ho4, ho5, ho6, ho7⟩ := id ho
  have hu := sPar_U ho (p := p) (k := k - 1)
  refine z_iload C dX2_isInShade_0 4 rfl ?_
  refine z_iconst C dX2_isInShade_2 ?_
  refine z_icmp_lt C dX2_isInShade_3 (tgt := 16) (by decide) (by omega) (by decide) (fun c1 => ?_) (fun c1 => ?_)
  · refine z_iconst C dX2_isInShade_16 ?_
    exact E dX2_isInShade_17 (by decide) (z_nb (Or.inl rfl)) ⟨rfl, Or.inr ⟨rfl, by omega⟩⟩
  · refine z_aload_n C dX2_isInShade_6 0 rfl ?_
    refine z_iload_n C dX2_isInShade_7 2 rfl ?_
    refine z_iload C dX2_isInShade_8 4 rfl ?_
    refine z_callVi C (c_X2_wasAlone (zl X) μ v p k (by omega) (by omega) hpar) yyX2_wasAlone mlX2_87 (zRc_of (i := 18) C (by decide) rfl rfl) dX2_isInShade_10 rfl rfl (Nat.le_of_ble_eq_true rfl) (by decide) (fun r2 m2 hr2 hp2 => ?_)
    obtain ⟨rfl, hp2⟩ := hp2
    rcases hp2 with ⟨rfl, hp2⟩ | ⟨rfl, hp2⟩
    · refine z_if_eq C dX2_isInShade_13 (tgt := 18) (by decide) (by decide) (fun c3 => (by exfalso; omega)) (fun _ => ?_)
      refine z_iconst C dX2_isInShade_16 ?_
      exact E dX2_isInShade_17 (by decide) (z_nb (Or.inl rfl)) ⟨rfl, Or.inr ⟨rfl, by omega⟩⟩
    · refine z_if_eq C dX2_isInShade_13 (tgt := 18) (by decide) (by decide) (fun _ => ?_) (fun c4 => (by exfalso; omega))
      refine z_aload_n C dX2_isInShade_18 1 rfl ?_
      refine z_iload_n C dX2_isInShade_19 2 rfl ?_
      refine z_aload_n C dX2_isInShade_20 0 rfl ?_
      refine z_getR C ffX2_11 dX2_isInShade_21 (by decide) rfl rfl ?_
      refine z_iload_n C dX2_isInShade_24 2 rfl ?_
      refine z_aald C dX2_isInShade_25 (by decide) rfl (by omega) (by decide) ?_
      refine z_iload C dX2_isInShade_26 4 rfl ?_
      refine z_iconst C dX2_isInShade_28 ?_
      refine z_isub C dX2_isInShade_29 ?_
      refine z_iald C dX2_isInShade_30 (by omega) (zd_row (by omega)) (by omega) (by decide) (fun hr5 => ?_)
      rw [hpar (k - 1) (by omega) (by omega)] at *
      refine z_callVi C (c_X4_likes (zl X) μ t ht v hv ho p (sPar v p (k - 1)) (by omega)) yyX4_likes mlX2_77 (zRc_of (i := t) C (by have := zto_lt ht; omega) (zd_to0 ht) rfl) dX2_isInShade_31 rfl rfl (Nat.le_of_ble_eq_true rfl) (by decide) (fun r6 m6 hr6 hp6 => ?_)
      obtain ⟨rfl, hp6⟩ := hp6
      have hq := ho7 p (sPar v p (k - 1)) (by omega)
      refine z_iload_n C dX2_isInShade_34 3 rfl ?_
      refine z_icmp_le C dX2_isInShade_35 (tgt := 42) (by decide) (by omega) (by omega) (fun c7 => ?_) (fun c7 => ?_)
      · refine z_iconst C dX2_isInShade_42 ?_
        exact E dX2_isInShade_43 (by decide) (z_nb (Or.inl rfl)) ⟨rfl, Or.inr ⟨rfl, by omega⟩⟩
      · refine z_iconst C dX2_isInShade_38 ?_
        refine z_goto C dX2_isInShade_39 (tgt := 43) (by decide) ?_
        exact E dX2_isInShade_43 (by decide) (z_nb (Or.inr rfl)) ⟨rfl, Or.inl ⟨rfl, by omega⟩⟩
set_option maxHeartbeats 4000000 in
theorem c_X2_feeling (l : Launch) (μ : zM) (t : Nat) (ht : zTo t) (v : zVw) (hv : zT μ t v) (ho : vOK v) (p o k : Int) (hp : vTh v p) (hpo : zU p o) (hk : 0 ≤ k ∧ k < 5) (hpar : ∀ k, 0 ≤ k → k < 5 → μ (48 + p.toNat) k = sPar v p k) : zMi l yX2_feeling cX2_feeling 6 (.int) 2 46 [.inr 18, .inr t, .inl p, .inl o, .inl k] μ (fun (r : Int) (m : zM) => μ = m ∧ r = sFeel v p o k) := by
  refine zMi_of (own := RX2) (by decide +kernel) rfl (Nat.le_of_ble_eq_true rfl) ?_
  intro X hX C hrm E
  subst hX
  show zJ X 6 μ 0 [(0, .inr 18), (1, .inr t), (2, .inl p), (3, .inl o), (4, .inl k)] []
  obtain ⟨hv1, hv2, hv3, hv4, hv5, hv6, hv7⟩ := id hv
  obtain ⟨ho1, ho2, ho3, ho4, ho5, ho6, ho7⟩ := id ho
  have hq := ho7 p o hpo
  have hq2 := ho7 o p (by omega)
  have hkd := (ho6 p (by omega) (by omega)).1
  have hvk := (hv6 p (by omega) (by omega)).1
  have hfb := sFeel_b ho hk hpo
  refine z_aload_n C dX2_feeling_0 1 rfl ?_
  refine z_iload_n C dX2_feeling_1 2 rfl ?_
  refine z_iload_n C dX2_feeling_2 3 rfl ?_
  refine z_callVi C (c_X4_likes (zl X) μ t ht v hv ho p o (by omega)) yyX4_likes mlX2_77 (zRc_of (i := t) C (by have := zto_lt ht; omega) (zd_to0 ht) rfl) dX2_feeling_3 rfl rfl (Nat.le_of_ble_eq_true rfl) (by decide) (fun r1 m1 hr1 hp1 => ?_)
  obtain ⟨rfl, hp1⟩ := hp1
  rw [hp1] at *
  refine z_istore C dX2_feeling_6 (by decide) (L' := [(0, _), (1, _), (2, _), (3, _), (4, _), (5, _)]) rfl ?_
  refine z_aload_n C dX2_feeling_8 1 rfl ?_
  refine z_getR C ffX2_80 dX2_feeling_9 (by have := zto_lt ht; omega) (zd_to0 ht) rfl ?_
  refine z_iload_n C dX2_feeling_12 2 rfl ?_
  refine z_iald C dX2_feeling_13 (by have := zto_lt ht; omega) (zd_to2 ht) (by omega) (by decide) (fun hr2 => ?_)
  rw [hvk] at *
  by_cases e3_0 : (vK v p) = 1
  · refine z_tabIn C dX2_feeling_14 (by omega) 0 (by omega) (by omega) (off := 34) (tgt := 48) rfl (by decide) ?_
    refine z_iload C dX2_feeling_48 4 rfl ?_
    refine z_if_ne C dX2_feeling_50 (tgt := 60) (by decide) (by omega) (fun c4 => ?_) (fun c4 => ?_)
    · refine z_iload C dX2_feeling_60 5 rfl ?_
      exact E dX2_feeling_62 (by omega) rfl ⟨rfl, (by unfold sFeel; simp [*]; try omega)⟩
    · refine z_iload C dX2_feeling_53 5 rfl ?_
      refine z_iconst C dX2_feeling_55 ?_
      refine z_isub C dX2_feeling_56 ?_
      refine z_goto C dX2_feeling_57 (tgt := 62) (by decide) ?_
      exact E dX2_feeling_62 (by omega) rfl ⟨rfl, (by unfold sFeel; simp [*]; try omega)⟩
  by_cases e3_1 : (vK v p) = 2
  · refine z_tabIn C dX2_feeling_14 (by omega) 1 (by omega) (by omega) (off := 49) (tgt := 63) rfl (by decide) ?_
    refine z_iload C dX2_feeling_63 5 rfl ?_
    refine z_iload C dX2_feeling_65 4 rfl ?_
    refine z_iconst C dX2_feeling_67 ?_
    refine z_idiv C dX2_feeling_68 (by omega) ?_
    refine z_isub C dX2_feeling_69 ?_
    exact E dX2_feeling_70 (by omega) rfl ⟨rfl, (by unfold sFeel; simp [*]; try omega)⟩
  by_cases e3_2 : (vK v p) = 3
  · refine z_tabIn C dX2_feeling_14 (by omega) 2 (by omega) (by omega) (off := 57) (tgt := 71) rfl (by decide) ?_
    refine z_aload_n C dX2_feeling_71 0 rfl ?_
    refine z_aload_n C dX2_feeling_72 1 rfl ?_
    refine z_iload_n C dX2_feeling_73 2 rfl ?_
    refine z_iload C dX2_feeling_74 5 rfl ?_
    refine z_iload C dX2_feeling_76 4 rfl ?_
    refine z_callVi C (c_X2_isInShade (zl X) μ t ht v hv ho p (vA v p o) k (by omega) (by omega) (by omega) hpar) yyX2_isInShade mlX2_83 (zRc_of (i := 18) C (by decide) rfl rfl) dX2_feeling_78 rfl rfl (Nat.le_of_ble_eq_true rfl) (by decide) (fun r5 m5 hr5 hp5 => ?_)
    obtain ⟨rfl, hp5⟩ := hp5
    rcases hp5 with ⟨rfl, hp5⟩ | ⟨rfl, hp5⟩
    · refine z_if_eq C dX2_feeling_81 (tgt := 91) (by decide) (by decide) (fun c6 => (by exfalso; omega)) (fun _ => ?_)
      refine z_iload C dX2_feeling_84 5 rfl ?_
      refine z_iconst C dX2_feeling_86 ?_
      refine z_isub C dX2_feeling_87 ?_
      refine z_goto C dX2_feeling_88 (tgt := 93) (by decide) ?_
      exact E dX2_feeling_93 (by omega) rfl ⟨rfl, (by unfold sFeel; simp [*]; try omega)⟩
    · refine z_if_eq C dX2_feeling_81 (tgt := 91) (by decide) (by decide) (fun _ => ?_) (fun c7 => (by exfalso; omega))
      refine z_iload C dX2_feeling_91 5 rfl ?_
      exact E dX2_feeling_93 (by omega) rfl ⟨rfl, (by unfold sFeel; simp [*]; try omega)⟩
  by_cases e3_3 : (vK v p) = 4
  · refine z_tabIn C dX2_feeling_14 (by omega) 3 (by omega) (by omega) (off := 80) (tgt := 94) rfl (by decide) ?_
    refine z_aload_n C dX2_feeling_94 1 rfl ?_
    refine z_iload_n C dX2_feeling_95 3 rfl ?_
    refine z_iload_n C dX2_feeling_96 2 rfl ?_
    refine z_callVi C (c_X4_likes (zl X) μ t ht v hv ho o p (by omega)) yyX4_likes mlX2_77 (zRc_of (i := t) C (by have := zto_lt ht; omega) (zd_to0 ht) rfl) dX2_feeling_97 rfl rfl (Nat.le_of_ble_eq_true rfl) (by decide) (fun r8 m8 hr8 hp8 => ?_)
    obtain ⟨rfl, hp8⟩ := hp8
    rw [hp8] at *
    refine z_iconst C dX2_feeling_100 ?_
    refine z_icmp_lt C dX2_feeling_101 (tgt := 111) (by decide) (by omega) (by decide) (fun c9 => ?_) (fun c9 => ?_)
    · refine z_iload C dX2_feeling_111 5 rfl ?_
      refine z_iconst C dX2_feeling_113 ?_
      refine z_isub C dX2_feeling_114 ?_
      exact E dX2_feeling_115 (by omega) rfl ⟨rfl, (by unfold sFeel; simp [*]; try omega)⟩
    · refine z_iload C dX2_feeling_104 5 rfl ?_
      refine z_iconst C dX2_feeling_106 ?_
      refine z_iadd C dX2_feeling_107 ?_
      refine z_goto C dX2_feeling_108 (tgt := 115) (by decide) ?_
      exact E dX2_feeling_115 (by omega) rfl ⟨rfl, (by unfold sFeel; simp [*]; try omega)⟩
  by_cases e3_4 : (vK v p) = 5
  · refine z_tabIn C dX2_feeling_14 (by omega) 4 (by omega) (by omega) (off := 102) (tgt := 116) rfl (by decide) ?_
    refine z_iload C dX2_feeling_116 5 rfl ?_
    refine z_iload C dX2_feeling_118 4 rfl ?_
    refine z_iconst C dX2_feeling_120 ?_
    refine z_idiv C dX2_feeling_121 (by omega) ?_
    refine z_isub C dX2_feeling_122 ?_
    refine z_aload_n C dX2_feeling_123 0 rfl ?_
    refine z_iload_n C dX2_feeling_124 2 rfl ?_
    refine z_iload C dX2_feeling_125 4 rfl ?_
    refine z_callVi C (c_X2_wasAlone (zl X) μ v p k (by omega) (by omega) hpar) yyX2_wasAlone mlX2_87 (zRc_of (i := 18) C (by decide) rfl rfl) dX2_feeling_127 rfl rfl (Nat.le_of_ble_eq_true rfl) (by decide) (fun r10 m10 hr10 hp10 => ?_)
    obtain ⟨rfl, hp10⟩ := hp10
    rcases hp10 with ⟨rfl, hp10⟩ | ⟨rfl, hp10⟩
    · refine z_if_eq C dX2_feeling_130 (tgt := 137) (by decide) (by decide) (fun c11 => (by exfalso; omega)) (fun _ => ?_)
      refine z_iconst C dX2_feeling_133 ?_
      refine z_goto C dX2_feeling_134 (tgt := 138) (by decide) ?_
      refine z_isub C dX2_feeling_138 ?_
      exact E dX2_feeling_139 (by omega) rfl ⟨rfl, (by unfold sFeel; simp [*]; try omega)⟩
    · refine z_if_eq C dX2_feeling_130 (tgt := 137) (by decide) (by decide) (fun _ => ?_) (fun c12 => (by exfalso; omega))
      refine z_iconst C dX2_feeling_137 ?_
      refine z_isub C dX2_feeling_138 ?_
      exact E dX2_feeling_139 (by omega) rfl ⟨rfl, (by unfold sFeel; simp [*]; try omega)⟩
  refine z_tabOut C dX2_feeling_14 (by omega) (by omega) (tgt := 140) (by decide) ?_
  refine z_iload C dX2_feeling_140 5 rfl ?_
  exact E dX2_feeling_142 (by omega) rfl ⟨rfl, (by unfold sFeel; simp [*]; try omega)⟩
