/-! the law's loop: each call of both, side by side -/
def zSc (X : zX) (b Ln : Nat) (xs : Nat → Int32) : Prop := match X with
  | (_, _, _, _, s, _, _, _, _, _, _, A, G, _, _) => va_X b Ln xs s s.heap ∧ b < s.heap.size ∧ ¬ A b ∧ G.2.2.2 69 = b
theorem zand31 (v : Int32) : 0 ≤ zand v.toInt 31 ∧ zand v.toInt 31 ≤ 31 := by
  unfold zand
  rw [iI_of]
  have h : (v &&& iI 31).toBitVec.toNat ≤ 31 := by
    rw [Int32.toBitVec_and, BitVec.toNat_and]
    exact Nat.le_trans Nat.and_le_right (by decide)
  have e : (v &&& iI 31).toInt = ((v &&& iI 31).toBitVec.toNat : Int) := by
    show BitVec.toInt _ = _
    rw [BitVec.toInt_eq_toNat_of_lt (by omega)]
  omega
section ZLW
variable {X : zX} {nL : Nat} {cc : ByteArray} {own : String} {Ts : List Cond} {f nw : Nat} {μ : zM} {pc : Nat} {L L' : List (Nat × zV)} {st : List zV}
theorem z_sld (C : zC X nL cc own Ts f nw) {b Ln : Nat} {xs : Nat → Int32} (S : zSc X b Ln xs) {x : Int} (d : decode cc pc = .ok (.iaload, 1)) (h : (0 ≤ x ∧ x < (Ln : Int)) ∧ Ln ≤ 2048) (K : zJ X nL μ (pc + 1) L (.inl (xs x.toNat).toInt :: st)) : zJ X nL μ pc L (.inl x :: .inr 69 :: st) := by
  obtain ⟨p, l, e, R, s, m, args, below, meth, c, Q, A, G, cells, slots⟩ := X
  obtain ⟨hx, hb, -⟩ := C
  obtain ⟨s1, s2, s3, s4⟩ := S
  intro hr H locs ls hP hS hl
  subst s4
  have h1 := K hr H locs ls hP hS hl
  have e1 : (iI x).toNatClampNeg = x.toNat := iI_clamp h.1.1 h.1.2 (by omega)
  refine va_sld (i := iI x) hx hb s1 s2 s3 hS (iI_in h.1.1 h.1.2 (by omega)) d ?_
  rw [e1]
  have e2 : zv G (.inl (xs x.toNat).toInt) = .int (xs x.toNat) := by
    show Value.int (iI (xs x.toNat).toInt) = _
    rw [iI_of]
  rw [List.map_cons, e2] at h1
  exact h1
theorem z_slen (C : zC X nL cc own Ts f nw) {b Ln : Nat} {xs : Nat → Int32} (S : zSc X b Ln xs) (d : decode cc pc = .ok (.arraylength, 1)) (K : zJ X nL μ (pc + 1) L (.inl (Ln : Int) :: st)) : zJ X nL μ pc L (.inr 69 :: st) := by
  obtain ⟨p, l, e, R, s, m, args, below, meth, c, Q, A, G, cells, slots⟩ := X
  obtain ⟨hx, hb, -⟩ := C
  obtain ⟨s1, s2, s3, s4⟩ := S
  intro hr H locs ls hP hS hl
  subst s4
  have h1 := K hr H locs ls hP hS hl
  refine va_slen hx hb s1 s2 s3 hS d ?_
  have e2 : zv G (.inl (Ln : Int)) = .int (Int32.ofNat Ln) := by
    show Value.int (iI (Ln : Int)) = _
    rw [show iI (Ln : Int) = Int32.ofNat Ln from Int32.ofInt_eq_ofNat]
  rw [List.map_cons, e2] at h1
  exact h1
end ZLW
set_option maxHeartbeats 8000000 in
theorem law_loop {X : zX} {Ts : List Cond} (C : zC X 4 cL_law RL Ts 13 494) {b Ln : Nat} {xs : Nat → Int32} (hSc : zSc X b Ln xs) (hLn : Ln ≤ 2048) (HE : ∀ {pc : Nat} {μ : zM} {L : List (Nat × zV)}, decode cL_law pc = .ok (.ireturn, 1) → zJ X 4 μ pc L [.inl 1]) (μ : zM) (s : zS) (hs : zCl μ s) (hr : zRf μ s) (ho : sOK s) : zJ X 4 μ 18 [(0, .inr 69), (1, .inr 0), (2, .inr 31), (3, .inl 0)] [] := by
  have LP18 : ∀ (N18 : Nat) (i : Int) (s1 : zS) (ma : zM), (0 ≤ i ∧ i ≤ (Ln : Int)) → (zCl ma s1) → (zRf ma s1) → (sOK s1) → ((Ln : Int) + 1 - i).toNat < N18 → zJ X 4 ma 18 [(0, .inr 69), (1, .inr 0), (2, .inr 31), (3, .inl i)] [] := by
    intro N18
    induction N18 with
    | zero => intro i s1 ma h18_0 h18_1 h18_2 h18_3 hN; exact absurd hN (Nat.not_lt_zero _)
    | succ N18 ih18 =>
      intro i s1 ma h18_0 h18_1 h18_2 h18_3 hN18
      refine z_iload_n C dL_law_18 3 rfl ?_
      refine z_aload_n C dL_law_19 0 rfl ?_
      refine z_slen C hSc dL_law_20 ?_
      refine z_iconst C dL_law_21 ?_
      refine z_isub C dL_law_22 ?_
      refine z_icmp_gt C dL_law_23 (tgt := 776) (by decide) (by omega) (by omega) (fun c1 => ?_) (fun c1 => ?_)
      · refine z_iconst C dL_law_776 ?_
        exact HE dL_law_777
      · refine z_aload_n C dL_law_26 0 rfl ?_
        refine z_iload_n C dL_law_27 3 rfl ?_
        refine z_sld C hSc dL_law_28 (by omega) ?_
        refine z_bipush C dL_law_29 (by decide) ?_
        refine z_iand C dL_law_31 ?_
        have hzk := zand31 (xs i.toNat)
        generalize zand (xs i.toNat).toInt 31 = k at hzk ⊢
        by_cases e2_d : k < 0 ∨ 25 < k
        · refine z_tabOut C dL_law_32 (by omega) (by omega) (tgt := 770) (by decide) ?_
          refine z_iinc C dL_law_770 3 rfl (by decide) (L' := [(0, _), (1, _), (2, _), (3, _)]) rfl ?_
          refine z_goto C dL_law_773 (tgt := 18) (by decide) ?_
          exact ih18 _ s1 ma (by omega) h18_1 h18_2 h18_3 (by omega)
        have e2_a : k = 0 ∨ k = 1 ∨ k = 2 ∨ k = 3 ∨ k = 4 ∨ k = 5 ∨ k = 6 ∨ k = 7 ∨ k = 8 ∨ k = 9 ∨ k = 10 ∨ k = 11 ∨ k = 12 ∨ k = 13 ∨ k = 14 ∨ k = 15 ∨ k = 16 ∨ k = 17 ∨ k = 18 ∨ k = 19 ∨ k = 20 ∨ k = 21 ∨ k = 22 ∨ k = 23 ∨ k = 24 ∨ k = 25 := by omega
        rcases e2_a with e2_0 | e2_1 | e2_2 | e2_3 | e2_4 | e2_5 | e2_6 | e2_7 | e2_8 | e2_9 | e2_10 | e2_11 | e2_12 | e2_13 | e2_14 | e2_15 | e2_16 | e2_17 | e2_18 | e2_19 | e2_20 | e2_21 | e2_22 | e2_23 | e2_24 | e2_25
        · refine z_tabIn C dL_law_32 (by omega) 0 (by omega) (by omega) (off := 120) (tgt := 152) rfl (by decide) ?_
          refine z_aload_n C dL_law_152 1 rfl ?_
          refine z_aload_n C dL_law_153 0 rfl ?_
          refine z_iload_n C dL_law_154 3 rfl ?_
          refine z_iconst C dL_law_155 ?_
          refine z_iadd C dL_law_156 ?_
          refine z_sld C hSc dL_law_157 (by omega) ?_
          refine z_callVi C (c_X5_letter (zl X) ma s1 h18_1 h18_3 ((xs (i + 1).toNat).toInt) (zR_toInt _)) yyX5_letter mlL_13 (zRc_of (i := 0) C (by decide) rfl rfl) dL_law_158 rfl rfl (Nat.le_of_ble_eq_true rfl) (by decide) (fun r3 m3 hr3 hp3 => ?_)
          refine z_aload_n C dL_law_161 2 rfl ?_
          refine z_aload_n C dL_law_162 0 rfl ?_
          refine z_iload_n C dL_law_163 3 rfl ?_
          refine z_iconst C dL_law_164 ?_
          refine z_iadd C dL_law_165 ?_
          refine z_sld C hSc dL_law_166 (by omega) ?_
          refine z_callVi C (c_X6_letter (zl X) m3 s1 (zRf_after h18_2 hp3.2.2) h18_3 ((xs (i + 1).toNat).toInt) (zR_toInt _)) yyX6_letter mlL_17 (zRc_of (i := 31) C (by decide) rfl rfl) dL_law_167 rfl rfl (Nat.le_of_ble_eq_true rfl) (by decide) (fun r4 m4 hr4 hp4 => ?_)
          have heq : r3 = r4 := hp3.1.trans hp4.1.symm
          refine z_icmp_eq C dL_law_170 (tgt := 770) (by decide) (by omega) (by omega) (fun _ => ?_) (fun c5 => (by exfalso; omega))
          refine z_iinc C dL_law_770 3 rfl (by decide) (L' := [(0, _), (1, _), (2, _), (3, _)]) rfl ?_
          refine z_goto C dL_law_773 (tgt := 18) (by decide) ?_
          exact ih18 _ (tLetter s1 ((xs (i + 1).toNat).toInt)).2 m4 (by omega) (zCl_after hp3.2.1 hp4.2.2) hp4.2.1 (tk_letter h18_3 _) (by omega)
        · refine z_tabIn C dL_law_32 (by omega) 1 (by omega) (by omega) (off := 143) (tgt := 175) rfl (by decide) ?_
          refine z_aload_n C dL_law_175 1 rfl ?_
          refine z_callVi C (c_X5_evening (zl X) ma s1 h18_1 h18_3) yyX5_evening mlL_18 (zRc_of (i := 0) C (by decide) rfl rfl) dL_law_176 rfl rfl (Nat.le_of_ble_eq_true rfl) (by decide) (fun r6 m6 hr6 hp6 => ?_)
          refine z_aload_n C dL_law_179 2 rfl ?_
          refine z_callVi C (c_X6_evening (zl X) m6 s1 (zRf_after h18_2 hp6.2.2) h18_3) yyX6_evening mlL_22 (zRc_of (i := 31) C (by decide) rfl rfl) dL_law_180 rfl rfl (Nat.le_of_ble_eq_true rfl) (by decide) (fun r7 m7 hr7 hp7 => ?_)
          have heq : r6 = r7 := hp6.1.trans hp7.1.symm
          refine z_icmp_eq C dL_law_183 (tgt := 770) (by decide) (by omega) (by omega) (fun _ => ?_) (fun c8 => (by exfalso; omega))
          refine z_iinc C dL_law_770 3 rfl (by decide) (L' := [(0, _), (1, _), (2, _), (3, _)]) rfl ?_
          refine z_goto C dL_law_773 (tgt := 18) (by decide) ?_
          exact ih18 _ (tEvening s1).2 m7 (by omega) (zCl_after hp6.2.1 hp7.2.2) hp7.2.1 (tk_evening h18_3) (by omega)
        · refine z_tabIn C dL_law_32 (by omega) 2 (by omega) (by omega) (off := 156) (tgt := 188) rfl (by decide) ?_
          refine z_aload_n C dL_law_188 1 rfl ?_
          refine z_aload_n C dL_law_189 0 rfl ?_
          refine z_iload_n C dL_law_190 3 rfl ?_
          refine z_iconst C dL_law_191 ?_
          refine z_iadd C dL_law_192 ?_
          refine z_sld C hSc dL_law_193 (by omega) ?_
          refine z_aload_n C dL_law_194 0 rfl ?_
          refine z_iload_n C dL_law_195 3 rfl ?_
          refine z_iconst C dL_law_196 ?_
          refine z_iadd C dL_law_197 ?_
          refine z_sld C hSc dL_law_198 (by omega) ?_
          refine z_callVi C (c_X5_person (zl X) ma s1 h18_1 h18_3 ((xs (i + 1).toNat).toInt) ((xs (i + 2).toNat).toInt) (zR_toInt _) (zR_toInt _)) yyX5_person mlL_23 (zRc_of (i := 0) C (by decide) rfl rfl) dL_law_199 rfl rfl (Nat.le_of_ble_eq_true rfl) (by decide) (fun r9 m9 hr9 hp9 => ?_)
          refine z_aload_n C dL_law_202 2 rfl ?_
          refine z_aload_n C dL_law_203 0 rfl ?_
          refine z_iload_n C dL_law_204 3 rfl ?_
          refine z_iconst C dL_law_205 ?_
          refine z_iadd C dL_law_206 ?_
          refine z_sld C hSc dL_law_207 (by omega) ?_
          refine z_aload_n C dL_law_208 0 rfl ?_
          refine z_iload_n C dL_law_209 3 rfl ?_
          refine z_iconst C dL_law_210 ?_
          refine z_iadd C dL_law_211 ?_
          refine z_sld C hSc dL_law_212 (by omega) ?_
          refine z_callVi C (c_X6_person (zl X) m9 s1 (zRf_after h18_2 hp9.2.2) h18_3 ((xs (i + 1).toNat).toInt) ((xs (i + 2).toNat).toInt) (zR_toInt _) (zR_toInt _)) yyX6_person mlL_27 (zRc_of (i := 31) C (by decide) rfl rfl) dL_law_213 rfl rfl (Nat.le_of_ble_eq_true rfl) (by decide) (fun r10 m10 hr10 hp10 => ?_)
          have heq : r9 = r10 := hp9.1.trans hp10.1.symm
          refine z_icmp_eq C dL_law_216 (tgt := 770) (by decide) (by omega) (by omega) (fun _ => ?_) (fun c11 => (by exfalso; omega))
          refine z_iinc C dL_law_770 3 rfl (by decide) (L' := [(0, _), (1, _), (2, _), (3, _)]) rfl ?_
          refine z_goto C dL_law_773 (tgt := 18) (by decide) ?_
          exact ih18 _ (tPerson s1 ((xs (i + 1).toNat).toInt) ((xs (i + 2).toNat).toInt)).2 m10 (by omega) (zCl_after hp9.2.1 hp10.2.2) hp10.2.1 (tk_person h18_3 _ _) (by omega)
        · refine z_tabIn C dL_law_32 (by omega) 3 (by omega) (by omega) (off := 189) (tgt := 221) rfl (by decide) ?_
          refine z_aload_n C dL_law_221 1 rfl ?_
          refine z_aload_n C dL_law_222 0 rfl ?_
          refine z_iload_n C dL_law_223 3 rfl ?_
          refine z_iconst C dL_law_224 ?_
          refine z_iadd C dL_law_225 ?_
          refine z_sld C hSc dL_law_226 (by omega) ?_
          refine z_aload_n C dL_law_227 0 rfl ?_
          refine z_iload_n C dL_law_228 3 rfl ?_
          refine z_iconst C dL_law_229 ?_
          refine z_iadd C dL_law_230 ?_
          refine z_sld C hSc dL_law_231 (by omega) ?_
          refine z_callVi C (c_X5_liking (zl X) ma s1 h18_1 h18_3 ((xs (i + 1).toNat).toInt) ((xs (i + 2).toNat).toInt) (zR_toInt _) (zR_toInt _)) yyX5_liking mlL_28 (zRc_of (i := 0) C (by decide) rfl rfl) dL_law_232 rfl rfl (Nat.le_of_ble_eq_true rfl) (by decide) (fun r12 m12 hr12 hp12 => ?_)
          refine z_aload_n C dL_law_235 2 rfl ?_
          refine z_aload_n C dL_law_236 0 rfl ?_
          refine z_iload_n C dL_law_237 3 rfl ?_
          refine z_iconst C dL_law_238 ?_
          refine z_iadd C dL_law_239 ?_
          refine z_sld C hSc dL_law_240 (by omega) ?_
          refine z_aload_n C dL_law_241 0 rfl ?_
          refine z_iload_n C dL_law_242 3 rfl ?_
          refine z_iconst C dL_law_243 ?_
          refine z_iadd C dL_law_244 ?_
          refine z_sld C hSc dL_law_245 (by omega) ?_
          refine z_callVi C (c_X6_liking (zl X) m12 s1 (zRf_after h18_2 hp12.2.2) h18_3 ((xs (i + 1).toNat).toInt) ((xs (i + 2).toNat).toInt) (zR_toInt _) (zR_toInt _)) yyX6_liking mlL_31 (zRc_of (i := 31) C (by decide) rfl rfl) dL_law_246 rfl rfl (Nat.le_of_ble_eq_true rfl) (by decide) (fun r13 m13 hr13 hp13 => ?_)
          have heq : r12 = r13 := hp12.1.trans hp13.1.symm
          refine z_icmp_eq C dL_law_249 (tgt := 770) (by decide) (by omega) (by omega) (fun _ => ?_) (fun c14 => (by exfalso; omega))
          refine z_iinc C dL_law_770 3 rfl (by decide) (L' := [(0, _), (1, _), (2, _), (3, _)]) rfl ?_
          refine z_goto C dL_law_773 (tgt := 18) (by decide) ?_
          exact ih18 _ (tLiking s1 ((xs (i + 1).toNat).toInt) ((xs (i + 2).toNat).toInt)).2 m13 (by omega) (zCl_after hp12.2.1 hp13.2.2) hp13.2.1 (tk_liking h18_3 _ _) (by omega)
        · refine z_tabIn C dL_law_32 (by omega) 4 (by omega) (by omega) (off := 222) (tgt := 254) rfl (by decide) ?_
          refine z_aload_n C dL_law_254 1 rfl ?_
          refine z_aload_n C dL_law_255 0 rfl ?_
          refine z_iload_n C dL_law_256 3 rfl ?_
          refine z_iconst C dL_law_257 ?_
          refine z_iadd C dL_law_258 ?_
          refine z_sld C hSc dL_law_259 (by omega) ?_
          refine z_aload_n C dL_law_260 0 rfl ?_
          refine z_iload_n C dL_law_261 3 rfl ?_
          refine z_iconst C dL_law_262 ?_
          refine z_iadd C dL_law_263 ?_
          refine z_sld C hSc dL_law_264 (by omega) ?_
          refine z_aload_n C dL_law_265 0 rfl ?_
          refine z_iload_n C dL_law_266 3 rfl ?_
          refine z_iconst C dL_law_267 ?_
          refine z_iadd C dL_law_268 ?_
          refine z_sld C hSc dL_law_269 (by omega) ?_
          refine z_callVi C (c_X5_like (zl X) ma s1 h18_1 h18_3 ((xs (i + 1).toNat).toInt) ((xs (i + 2).toNat).toInt) ((xs (i + 3).toNat).toInt) (zR_toInt _) (zR_toInt _) (zR_toInt _)) yyX5_like mlL_32 (zRc_of (i := 0) C (by decide) rfl rfl) dL_law_270 rfl rfl (Nat.le_of_ble_eq_true rfl) (by decide) (fun r15 m15 hr15 hp15 => ?_)
          refine z_aload_n C dL_law_273 2 rfl ?_
          refine z_aload_n C dL_law_274 0 rfl ?_
          refine z_iload_n C dL_law_275 3 rfl ?_
          refine z_iconst C dL_law_276 ?_
          refine z_iadd C dL_law_277 ?_
          refine z_sld C hSc dL_law_278 (by omega) ?_
          refine z_aload_n C dL_law_279 0 rfl ?_
          refine z_iload_n C dL_law_280 3 rfl ?_
          refine z_iconst C dL_law_281 ?_
          refine z_iadd C dL_law_282 ?_
          refine z_sld C hSc dL_law_283 (by omega) ?_
          refine z_aload_n C dL_law_284 0 rfl ?_
          refine z_iload_n C dL_law_285 3 rfl ?_
          refine z_iconst C dL_law_286 ?_
          refine z_iadd C dL_law_287 ?_
          refine z_sld C hSc dL_law_288 (by omega) ?_
          refine z_callVi C (c_X6_like (zl X) m15 s1 (zRf_after h18_2 hp15.2.2) h18_3 ((xs (i + 1).toNat).toInt) ((xs (i + 2).toNat).toInt) ((xs (i + 3).toNat).toInt) (zR_toInt _) (zR_toInt _) (zR_toInt _)) yyX6_like mlL_36 (zRc_of (i := 31) C (by decide) rfl rfl) dL_law_289 rfl rfl (Nat.le_of_ble_eq_true rfl) (by decide) (fun r16 m16 hr16 hp16 => ?_)
          have heq : r15 = r16 := hp15.1.trans hp16.1.symm
          refine z_icmp_eq C dL_law_292 (tgt := 770) (by decide) (by omega) (by omega) (fun _ => ?_) (fun c17 => (by exfalso; omega))
          refine z_iinc C dL_law_770 3 rfl (by decide) (L' := [(0, _), (1, _), (2, _), (3, _)]) rfl ?_
          refine z_goto C dL_law_773 (tgt := 18) (by decide) ?_
          exact ih18 _ (tLike s1 ((xs (i + 1).toNat).toInt) ((xs (i + 2).toNat).toInt) ((xs (i + 3).toNat).toInt)).2 m16 (by omega) (zCl_after hp15.2.1 hp16.2.2) hp16.2.1 (tk_like h18_3 _ _ _) (by omega)
        · refine z_tabIn C dL_law_32 (by omega) 5 (by omega) (by omega) (off := 265) (tgt := 297) rfl (by decide) ?_
          refine z_aload_n C dL_law_297 1 rfl ?_
          refine z_aload_n C dL_law_298 0 rfl ?_
          refine z_iload_n C dL_law_299 3 rfl ?_
          refine z_iconst C dL_law_300 ?_
          refine z_iadd C dL_law_301 ?_
          refine z_sld C hSc dL_law_302 (by omega) ?_
          refine z_aload_n C dL_law_303 0 rfl ?_
          refine z_iload_n C dL_law_304 3 rfl ?_
          refine z_iconst C dL_law_305 ?_
          refine z_iadd C dL_law_306 ?_
          refine z_sld C hSc dL_law_307 (by omega) ?_
          refine z_callVi C (c_X5_order (zl X) ma s1 h18_1 h18_3 ((xs (i + 1).toNat).toInt) ((xs (i + 2).toNat).toInt) (zR_toInt _) (zR_toInt _)) yyX5_order mlL_37 (zRc_of (i := 0) C (by decide) rfl rfl) dL_law_308 rfl rfl (Nat.le_of_ble_eq_true rfl) (by decide) (fun r18 m18 hr18 hp18 => ?_)
          refine z_aload_n C dL_law_311 2 rfl ?_
          refine z_aload_n C dL_law_312 0 rfl ?_
          refine z_iload_n C dL_law_313 3 rfl ?_
          refine z_iconst C dL_law_314 ?_
          refine z_iadd C dL_law_315 ?_
          refine z_sld C hSc dL_law_316 (by omega) ?_
          refine z_aload_n C dL_law_317 0 rfl ?_
          refine z_iload_n C dL_law_318 3 rfl ?_
          refine z_iconst C dL_law_319 ?_
          refine z_iadd C dL_law_320 ?_
          refine z_sld C hSc dL_law_321 (by omega) ?_
          refine z_callVi C (c_X6_order (zl X) m18 s1 (zRf_after h18_2 hp18.2.2) h18_3 ((xs (i + 1).toNat).toInt) ((xs (i + 2).toNat).toInt) (zR_toInt _) (zR_toInt _)) yyX6_order mlL_40 (zRc_of (i := 31) C (by decide) rfl rfl) dL_law_322 rfl rfl (Nat.le_of_ble_eq_true rfl) (by decide) (fun r19 m19 hr19 hp19 => ?_)
          have heq : r18 = r19 := hp18.1.trans hp19.1.symm
          refine z_icmp_eq C dL_law_325 (tgt := 770) (by decide) (by omega) (by omega) (fun _ => ?_) (fun c20 => (by exfalso; omega))
          refine z_iinc C dL_law_770 3 rfl (by decide) (L' := [(0, _), (1, _), (2, _), (3, _)]) rfl ?_
          refine z_goto C dL_law_773 (tgt := 18) (by decide) ?_
          exact ih18 _ (tOrder s1 ((xs (i + 1).toNat).toInt) ((xs (i + 2).toNat).toInt)).2 m19 (by omega) (zCl_after hp18.2.1 hp19.2.2) hp19.2.1 (tk_order h18_3 _ _) (by omega)
        · refine z_tabIn C dL_law_32 (by omega) 6 (by omega) (by omega) (off := 298) (tgt := 330) rfl (by decide) ?_
          refine z_aload_n C dL_law_330 1 rfl ?_
          refine z_aload_n C dL_law_331 0 rfl ?_
          refine z_iload_n C dL_law_332 3 rfl ?_
          refine z_iconst C dL_law_333 ?_
          refine z_iadd C dL_law_334 ?_
          refine z_sld C hSc dL_law_335 (by omega) ?_
          refine z_callVi C (c_X5_law (zl X) ma s1 h18_1 h18_3 ((xs (i + 1).toNat).toInt) (zR_toInt _)) yyX5_law mlL_41 (zRc_of (i := 0) C (by decide) rfl rfl) dL_law_336 rfl rfl (Nat.le_of_ble_eq_true rfl) (by decide) (fun r21 m21 hr21 hp21 => ?_)
          refine z_aload_n C dL_law_339 2 rfl ?_
          refine z_aload_n C dL_law_340 0 rfl ?_
          refine z_iload_n C dL_law_341 3 rfl ?_
          refine z_iconst C dL_law_342 ?_
          refine z_iadd C dL_law_343 ?_
          refine z_sld C hSc dL_law_344 (by omega) ?_
          refine z_callVi C (c_X6_law (zl X) m21 s1 (zRf_after h18_2 hp21.2.2) h18_3 ((xs (i + 1).toNat).toInt) (zR_toInt _)) yyX6_law mlL_44 (zRc_of (i := 31) C (by decide) rfl rfl) dL_law_345 rfl rfl (Nat.le_of_ble_eq_true rfl) (by decide) (fun r22 m22 hr22 hp22 => ?_)
          have heq : r21 = r22 := hp21.1.trans hp22.1.symm
          refine z_icmp_eq C dL_law_348 (tgt := 770) (by decide) (by omega) (by omega) (fun _ => ?_) (fun c23 => (by exfalso; omega))
          refine z_iinc C dL_law_770 3 rfl (by decide) (L' := [(0, _), (1, _), (2, _), (3, _)]) rfl ?_
          refine z_goto C dL_law_773 (tgt := 18) (by decide) ?_
          exact ih18 _ (tLaw s1 ((xs (i + 1).toNat).toInt)).2 m22 (by omega) (zCl_after hp21.2.1 hp22.2.2) hp22.2.1 (tk_law h18_3 _) (by omega)
        · refine z_tabIn C dL_law_32 (by omega) 7 (by omega) (by omega) (off := 321) (tgt := 353) rfl (by decide) ?_
          refine z_aload_n C dL_law_353 1 rfl ?_
          refine z_aload_n C dL_law_354 0 rfl ?_
          refine z_iload_n C dL_law_355 3 rfl ?_
          refine z_iconst C dL_law_356 ?_
          refine z_iadd C dL_law_357 ?_
          refine z_sld C hSc dL_law_358 (by omega) ?_
          refine z_aload_n C dL_law_359 0 rfl ?_
          refine z_iload_n C dL_law_360 3 rfl ?_
          refine z_iconst C dL_law_361 ?_
          refine z_iadd C dL_law_362 ?_
          refine z_sld C hSc dL_law_363 (by omega) ?_
          refine z_callVi C (c_X5_meets (zl X) ma s1 h18_1 h18_3 ((xs (i + 1).toNat).toInt) ((xs (i + 2).toNat).toInt) (zR_toInt _) (zR_toInt _)) yyX5_meets mlL_45 (zRc_of (i := 0) C (by decide) rfl rfl) dL_law_364 rfl rfl (Nat.le_of_ble_eq_true rfl) (by decide) (fun r24 m24 hr24 hp24 => ?_)
          refine z_aload_n C dL_law_367 2 rfl ?_
          refine z_aload_n C dL_law_368 0 rfl ?_
          refine z_iload_n C dL_law_369 3 rfl ?_
          refine z_iconst C dL_law_370 ?_
          refine z_iadd C dL_law_371 ?_
          refine z_sld C hSc dL_law_372 (by omega) ?_
          refine z_aload_n C dL_law_373 0 rfl ?_
          refine z_iload_n C dL_law_374 3 rfl ?_
          refine z_iconst C dL_law_375 ?_
          refine z_iadd C dL_law_376 ?_
          refine z_sld C hSc dL_law_377 (by omega) ?_
          refine z_callVi C (c_X6_meets (zl X) m24 s1 (zRf_after h18_2 hp24.2.2) h18_3 ((xs (i + 1).toNat).toInt) ((xs (i + 2).toNat).toInt) (zR_toInt _) (zR_toInt _)) yyX6_meets mlL_48 (zRc_of (i := 31) C (by decide) rfl rfl) dL_law_378 rfl rfl (Nat.le_of_ble_eq_true rfl) (by decide) (fun r25 m25 hr25 hp25 => ?_)
          have heq : r24 = r25 := hp24.1.trans hp25.1.symm
          refine z_icmp_eq C dL_law_381 (tgt := 770) (by decide) (by omega) (by omega) (fun _ => ?_) (fun c26 => (by exfalso; omega))
          refine z_iinc C dL_law_770 3 rfl (by decide) (L' := [(0, _), (1, _), (2, _), (3, _)]) rfl ?_
          refine z_goto C dL_law_773 (tgt := 18) (by decide) ?_
          exact ih18 _ (tMeets s1 ((xs (i + 1).toNat).toInt) ((xs (i + 2).toNat).toInt)).2 m25 (by omega) (zCl_after hp24.2.1 hp25.2.2) hp25.2.1 (tk_meets h18_3 _ _) (by omega)
        · refine z_tabIn C dL_law_32 (by omega) 8 (by omega) (by omega) (off := 354) (tgt := 386) rfl (by decide) ?_
          refine z_aload_n C dL_law_386 1 rfl ?_
          refine z_aload_n C dL_law_387 0 rfl ?_
          refine z_iload_n C dL_law_388 3 rfl ?_
          refine z_iconst C dL_law_389 ?_
          refine z_iadd C dL_law_390 ?_
          refine z_sld C hSc dL_law_391 (by omega) ?_
          refine z_aload_n C dL_law_392 0 rfl ?_
          refine z_iload_n C dL_law_393 3 rfl ?_
          refine z_iconst C dL_law_394 ?_
          refine z_iadd C dL_law_395 ?_
          refine z_sld C hSc dL_law_396 (by omega) ?_
          refine z_callVi C (c_X5_felt (zl X) ma s1 h18_1 h18_3 ((xs (i + 1).toNat).toInt) ((xs (i + 2).toNat).toInt) (zR_toInt _) (zR_toInt _)) yyX5_felt mlL_49 (zRc_of (i := 0) C (by decide) rfl rfl) dL_law_397 rfl rfl (Nat.le_of_ble_eq_true rfl) (by decide) (fun r27 m27 hr27 hp27 => ?_)
          refine z_aload_n C dL_law_400 2 rfl ?_
          refine z_aload_n C dL_law_401 0 rfl ?_
          refine z_iload_n C dL_law_402 3 rfl ?_
          refine z_iconst C dL_law_403 ?_
          refine z_iadd C dL_law_404 ?_
          refine z_sld C hSc dL_law_405 (by omega) ?_
          refine z_aload_n C dL_law_406 0 rfl ?_
          refine z_iload_n C dL_law_407 3 rfl ?_
          refine z_iconst C dL_law_408 ?_
          refine z_iadd C dL_law_409 ?_
          refine z_sld C hSc dL_law_410 (by omega) ?_
          refine z_callVi C (c_X6_felt (zl X) m27 s1 (zRf_after h18_2 hp27.2.2) h18_3 ((xs (i + 1).toNat).toInt) ((xs (i + 2).toNat).toInt) (zR_toInt _) (zR_toInt _)) yyX6_felt mlL_52 (zRc_of (i := 31) C (by decide) rfl rfl) dL_law_411 rfl rfl (Nat.le_of_ble_eq_true rfl) (by decide) (fun r28 m28 hr28 hp28 => ?_)
          have heq : r27 = r28 := hp27.1.trans hp28.1.symm
          refine z_icmp_eq C dL_law_414 (tgt := 770) (by decide) (by omega) (by omega) (fun _ => ?_) (fun c29 => (by exfalso; omega))
          refine z_iinc C dL_law_770 3 rfl (by decide) (L' := [(0, _), (1, _), (2, _), (3, _)]) rfl ?_
          refine z_goto C dL_law_773 (tgt := 18) (by decide) ?_
          exact ih18 _ (tFelt s1 ((xs (i + 1).toNat).toInt) ((xs (i + 2).toNat).toInt)).2 m28 (by omega) (zCl_after hp27.2.1 hp28.2.2) hp28.2.1 (tk_felt h18_3 _ _) (by omega)
        · refine z_tabIn C dL_law_32 (by omega) 9 (by omega) (by omega) (off := 387) (tgt := 419) rfl (by decide) ?_
          refine z_aload_n C dL_law_419 1 rfl ?_
          refine z_aload_n C dL_law_420 0 rfl ?_
          refine z_iload_n C dL_law_421 3 rfl ?_
          refine z_iconst C dL_law_422 ?_
          refine z_iadd C dL_law_423 ?_
          refine z_sld C hSc dL_law_424 (by omega) ?_
          refine z_aload_n C dL_law_425 0 rfl ?_
          refine z_iload_n C dL_law_426 3 rfl ?_
          refine z_iconst C dL_law_427 ?_
          refine z_iadd C dL_law_428 ?_
          refine z_sld C hSc dL_law_429 (by omega) ?_
          refine z_callVi C (c_X5_yeses (zl X) ma s1 h18_1 h18_3 ((xs (i + 1).toNat).toInt) ((xs (i + 2).toNat).toInt) (zR_toInt _) (zR_toInt _)) yyX5_yeses mlL_53 (zRc_of (i := 0) C (by decide) rfl rfl) dL_law_430 rfl rfl (Nat.le_of_ble_eq_true rfl) (by decide) (fun r30 m30 hr30 hp30 => ?_)
          refine z_aload_n C dL_law_433 2 rfl ?_
          refine z_aload_n C dL_law_434 0 rfl ?_
          refine z_iload_n C dL_law_435 3 rfl ?_
          refine z_iconst C dL_law_436 ?_
          refine z_iadd C dL_law_437 ?_
          refine z_sld C hSc dL_law_438 (by omega) ?_
          refine z_aload_n C dL_law_439 0 rfl ?_
          refine z_iload_n C dL_law_440 3 rfl ?_
          refine z_iconst C dL_law_441 ?_
          refine z_iadd C dL_law_442 ?_
          refine z_sld C hSc dL_law_443 (by omega) ?_
          refine z_callVi C (c_X6_yeses (zl X) m30 s1 (zRf_after h18_2 hp30.2.2) h18_3 ((xs (i + 1).toNat).toInt) ((xs (i + 2).toNat).toInt) (zR_toInt _) (zR_toInt _)) yyX6_yeses mlL_56 (zRc_of (i := 31) C (by decide) rfl rfl) dL_law_444 rfl rfl (Nat.le_of_ble_eq_true rfl) (by decide) (fun r31 m31 hr31 hp31 => ?_)
          have heq : r30 = r31 := hp30.1.trans hp31.1.symm
          refine z_icmp_eq C dL_law_447 (tgt := 770) (by decide) (by omega) (by omega) (fun _ => ?_) (fun c32 => (by exfalso; omega))
          refine z_iinc C dL_law_770 3 rfl (by decide) (L' := [(0, _), (1, _), (2, _), (3, _)]) rfl ?_
          refine z_goto C dL_law_773 (tgt := 18) (by decide) ?_
          exact ih18 _ (tYeses s1 ((xs (i + 1).toNat).toInt) ((xs (i + 2).toNat).toInt)).2 m31 (by omega) (zCl_after hp30.2.1 hp31.2.2) hp31.2.1 (tk_yeses h18_3 _ _) (by omega)
        · refine z_tabIn C dL_law_32 (by omega) 10 (by omega) (by omega) (off := 420) (tgt := 452) rfl (by decide) ?_
          refine z_aload_n C dL_law_452 1 rfl ?_
          refine z_aload_n C dL_law_453 0 rfl ?_
          refine z_iload_n C dL_law_454 3 rfl ?_
          refine z_iconst C dL_law_455 ?_
          refine z_iadd C dL_law_456 ?_
          refine z_sld C hSc dL_law_457 (by omega) ?_
          refine z_callVi C (c_X5_pairs (zl X) ma s1 h18_1 h18_3 ((xs (i + 1).toNat).toInt) (zR_toInt _)) yyX5_pairs mlL_57 (zRc_of (i := 0) C (by decide) rfl rfl) dL_law_458 rfl rfl (Nat.le_of_ble_eq_true rfl) (by decide) (fun r33 m33 hr33 hp33 => ?_)
          refine z_aload_n C dL_law_461 2 rfl ?_
          refine z_aload_n C dL_law_462 0 rfl ?_
          refine z_iload_n C dL_law_463 3 rfl ?_
          refine z_iconst C dL_law_464 ?_
          refine z_iadd C dL_law_465 ?_
          refine z_sld C hSc dL_law_466 (by omega) ?_
          refine z_callVi C (c_X6_pairs (zl X) m33 s1 (zRf_after h18_2 hp33.2.2) h18_3 ((xs (i + 1).toNat).toInt) (zR_toInt _)) yyX6_pairs mlL_60 (zRc_of (i := 31) C (by decide) rfl rfl) dL_law_467 rfl rfl (Nat.le_of_ble_eq_true rfl) (by decide) (fun r34 m34 hr34 hp34 => ?_)
          have heq : r33 = r34 := hp33.1.trans hp34.1.symm
          refine z_icmp_eq C dL_law_470 (tgt := 770) (by decide) (by omega) (by omega) (fun _ => ?_) (fun c35 => (by exfalso; omega))
          refine z_iinc C dL_law_770 3 rfl (by decide) (L' := [(0, _), (1, _), (2, _), (3, _)]) rfl ?_
          refine z_goto C dL_law_773 (tgt := 18) (by decide) ?_
          exact ih18 _ (tPairs s1 ((xs (i + 1).toNat).toInt)).2 m34 (by omega) (zCl_after hp33.2.1 hp34.2.2) hp34.2.1 (tk_pairs h18_3 _) (by omega)
        · refine z_tabIn C dL_law_32 (by omega) 11 (by omega) (by omega) (off := 443) (tgt := 475) rfl (by decide) ?_
          refine z_aload_n C dL_law_475 1 rfl ?_
          refine z_aload_n C dL_law_476 0 rfl ?_
          refine z_iload_n C dL_law_477 3 rfl ?_
          refine z_iconst C dL_law_478 ?_
          refine z_iadd C dL_law_479 ?_
          refine z_sld C hSc dL_law_480 (by omega) ?_
          refine z_aload_n C dL_law_481 0 rfl ?_
          refine z_iload_n C dL_law_482 3 rfl ?_
          refine z_iconst C dL_law_483 ?_
          refine z_iadd C dL_law_484 ?_
          refine z_sld C hSc dL_law_485 (by omega) ?_
          refine z_callVi C (c_X5_glad (zl X) ma s1 h18_1 h18_3 ((xs (i + 1).toNat).toInt) ((xs (i + 2).toNat).toInt) (zR_toInt _) (zR_toInt _)) yyX5_glad mlL_61 (zRc_of (i := 0) C (by decide) rfl rfl) dL_law_486 rfl rfl (Nat.le_of_ble_eq_true rfl) (by decide) (fun r36 m36 hr36 hp36 => ?_)
          refine z_aload_n C dL_law_489 2 rfl ?_
          refine z_aload_n C dL_law_490 0 rfl ?_
          refine z_iload_n C dL_law_491 3 rfl ?_
          refine z_iconst C dL_law_492 ?_
          refine z_iadd C dL_law_493 ?_
          refine z_sld C hSc dL_law_494 (by omega) ?_
          refine z_aload_n C dL_law_495 0 rfl ?_
          refine z_iload_n C dL_law_496 3 rfl ?_
          refine z_iconst C dL_law_497 ?_
          refine z_iadd C dL_law_498 ?_
          refine z_sld C hSc dL_law_499 (by omega) ?_
          refine z_callVi C (c_X6_glad (zl X) m36 s1 (zRf_after h18_2 hp36.2.2) h18_3 ((xs (i + 1).toNat).toInt) ((xs (i + 2).toNat).toInt) (zR_toInt _) (zR_toInt _)) yyX6_glad mlL_64 (zRc_of (i := 31) C (by decide) rfl rfl) dL_law_500 rfl rfl (Nat.le_of_ble_eq_true rfl) (by decide) (fun r37 m37 hr37 hp37 => ?_)
          have heq : r36 = r37 := hp36.1.trans hp37.1.symm
          refine z_icmp_eq C dL_law_503 (tgt := 770) (by decide) (by omega) (by omega) (fun _ => ?_) (fun c38 => (by exfalso; omega))
          refine z_iinc C dL_law_770 3 rfl (by decide) (L' := [(0, _), (1, _), (2, _), (3, _)]) rfl ?_
          refine z_goto C dL_law_773 (tgt := 18) (by decide) ?_
          exact ih18 _ (tGlad s1 ((xs (i + 1).toNat).toInt) ((xs (i + 2).toNat).toInt)).2 m37 (by omega) (zCl_after hp36.2.1 hp37.2.2) hp37.2.1 (tk_glad h18_3 _ _) (by omega)
        · refine z_tabIn C dL_law_32 (by omega) 12 (by omega) (by omega) (off := 476) (tgt := 508) rfl (by decide) ?_
          refine z_aload_n C dL_law_508 1 rfl ?_
          refine z_callVi C (c_X5_shaded (zl X) ma s1 h18_1 h18_3) yyX5_shaded mlL_65 (zRc_of (i := 0) C (by decide) rfl rfl) dL_law_509 rfl rfl (Nat.le_of_ble_eq_true rfl) (by decide) (fun r39 m39 hr39 hp39 => ?_)
          refine z_aload_n C dL_law_512 2 rfl ?_
          refine z_callVi C (c_X6_shaded (zl X) m39 s1 (zRf_after h18_2 hp39.2.2) h18_3) yyX6_shaded mlL_68 (zRc_of (i := 31) C (by decide) rfl rfl) dL_law_513 rfl rfl (Nat.le_of_ble_eq_true rfl) (by decide) (fun r40 m40 hr40 hp40 => ?_)
          have heq : r39 = r40 := hp39.1.trans hp40.1.symm
          refine z_icmp_eq C dL_law_516 (tgt := 770) (by decide) (by omega) (by omega) (fun _ => ?_) (fun c41 => (by exfalso; omega))
          refine z_iinc C dL_law_770 3 rfl (by decide) (L' := [(0, _), (1, _), (2, _), (3, _)]) rfl ?_
          refine z_goto C dL_law_773 (tgt := 18) (by decide) ?_
          exact ih18 _ (tShaded s1).2 m40 (by omega) (zCl_after hp39.2.1 hp40.2.2) hp40.2.1 h18_3 (by omega)
        · refine z_tabIn C dL_law_32 (by omega) 13 (by omega) (by omega) (off := 489) (tgt := 521) rfl (by decide) ?_
          refine z_aload_n C dL_law_521 1 rfl ?_
          refine z_callVi C (c_X5_bestOrder (zl X) ma s1 h18_1 h18_3) yyX5_bestOrder mlL_69 (zRc_of (i := 0) C (by decide) rfl rfl) dL_law_522 rfl rfl (Nat.le_of_ble_eq_true rfl) (by decide) (fun r42 m42 hr42 hp42 => ?_)
          refine z_aload_n C dL_law_525 2 rfl ?_
          refine z_callVi C (c_X6_bestOrder (zl X) m42 s1 (zRf_after h18_2 hp42.2.2) h18_3) yyX6_bestOrder mlL_72 (zRc_of (i := 31) C (by decide) rfl rfl) dL_law_526 rfl rfl (Nat.le_of_ble_eq_true rfl) (by decide) (fun r43 m43 hr43 hp43 => ?_)
          have heq : r42 = r43 := hp42.1.trans hp43.1.symm
          refine z_icmp_eq C dL_law_529 (tgt := 770) (by decide) (by omega) (by omega) (fun _ => ?_) (fun c44 => (by exfalso; omega))
          refine z_iinc C dL_law_770 3 rfl (by decide) (L' := [(0, _), (1, _), (2, _), (3, _)]) rfl ?_
          refine z_goto C dL_law_773 (tgt := 18) (by decide) ?_
          exact ih18 _ (tBest s1).2 m43 (by omega) (zCl_after hp42.2.1 hp43.2.2) hp43.2.1 h18_3 (by omega)
        · refine z_tabIn C dL_law_32 (by omega) 14 (by omega) (by omega) (off := 502) (tgt := 534) rfl (by decide) ?_
          refine z_aload_n C dL_law_534 1 rfl ?_
          refine z_aload_n C dL_law_535 0 rfl ?_
          refine z_iload_n C dL_law_536 3 rfl ?_
          refine z_iconst C dL_law_537 ?_
          refine z_iadd C dL_law_538 ?_
          refine z_sld C hSc dL_law_539 (by omega) ?_
          refine z_callVi C (c_X5_ranks (zl X) ma s1 h18_1 h18_3 ((xs (i + 1).toNat).toInt) (zR_toInt _)) yyX5_ranks mlL_73 (zRc_of (i := 0) C (by decide) rfl rfl) dL_law_540 rfl rfl (Nat.le_of_ble_eq_true rfl) (by decide) (fun r45 m45 hr45 hp45 => ?_)
          refine z_aload_n C dL_law_543 2 rfl ?_
          refine z_aload_n C dL_law_544 0 rfl ?_
          refine z_iload_n C dL_law_545 3 rfl ?_
          refine z_iconst C dL_law_546 ?_
          refine z_iadd C dL_law_547 ?_
          refine z_sld C hSc dL_law_548 (by omega) ?_
          refine z_callVi C (c_X6_ranks (zl X) m45 s1 (zRf_after h18_2 hp45.2.2) h18_3 ((xs (i + 1).toNat).toInt) (zR_toInt _)) yyX6_ranks mlL_76 (zRc_of (i := 31) C (by decide) rfl rfl) dL_law_549 rfl rfl (Nat.le_of_ble_eq_true rfl) (by decide) (fun r46 m46 hr46 hp46 => ?_)
          have heq : r45 = r46 := hp45.1.trans hp46.1.symm
          refine z_icmp_eq C dL_law_552 (tgt := 770) (by decide) (by omega) (by omega) (fun _ => ?_) (fun c47 => (by exfalso; omega))
          refine z_iinc C dL_law_770 3 rfl (by decide) (L' := [(0, _), (1, _), (2, _), (3, _)]) rfl ?_
          refine z_goto C dL_law_773 (tgt := 18) (by decide) ?_
          exact ih18 _ (tGot s1 ((xs (i + 1).toNat).toInt) 0).2 m46 (by omega) (zCl_after hp45.2.1 hp46.2.2) hp46.2.1 (tk_got h18_3 _ _) (by omega)
        · refine z_tabIn C dL_law_32 (by omega) 15 (by omega) (by omega) (off := 525) (tgt := 557) rfl (by decide) ?_
          refine z_aload_n C dL_law_557 1 rfl ?_
          refine z_aload_n C dL_law_558 0 rfl ?_
          refine z_iload_n C dL_law_559 3 rfl ?_
          refine z_iconst C dL_law_560 ?_
          refine z_iadd C dL_law_561 ?_
          refine z_sld C hSc dL_law_562 (by omega) ?_
          refine z_callVi C (c_X5_asked (zl X) ma s1 h18_1 h18_3 ((xs (i + 1).toNat).toInt) (zR_toInt _)) yyX5_asked mlL_77 (zRc_of (i := 0) C (by decide) rfl rfl) dL_law_563 rfl rfl (Nat.le_of_ble_eq_true rfl) (by decide) (fun r48 m48 hr48 hp48 => ?_)
          refine z_aload_n C dL_law_566 2 rfl ?_
          refine z_aload_n C dL_law_567 0 rfl ?_
          refine z_iload_n C dL_law_568 3 rfl ?_
          refine z_iconst C dL_law_569 ?_
          refine z_iadd C dL_law_570 ?_
          refine z_sld C hSc dL_law_571 (by omega) ?_
          refine z_callVi C (c_X6_asked (zl X) m48 s1 (zRf_after h18_2 hp48.2.2) h18_3 ((xs (i + 1).toNat).toInt) (zR_toInt _)) yyX6_asked mlL_80 (zRc_of (i := 31) C (by decide) rfl rfl) dL_law_572 rfl rfl (Nat.le_of_ble_eq_true rfl) (by decide) (fun r49 m49 hr49 hp49 => ?_)
          have heq : r48 = r49 := hp48.1.trans hp49.1.symm
          refine z_icmp_eq C dL_law_575 (tgt := 770) (by decide) (by omega) (by omega) (fun _ => ?_) (fun c50 => (by exfalso; omega))
          refine z_iinc C dL_law_770 3 rfl (by decide) (L' := [(0, _), (1, _), (2, _), (3, _)]) rfl ?_
          refine z_goto C dL_law_773 (tgt := 18) (by decide) ?_
          exact ih18 _ (tGot s1 ((xs (i + 1).toNat).toInt) 1).2 m49 (by omega) (zCl_after hp48.2.1 hp49.2.2) hp49.2.1 (tk_got h18_3 _ _) (by omega)
        · refine z_tabIn C dL_law_32 (by omega) 16 (by omega) (by omega) (off := 548) (tgt := 580) rfl (by decide) ?_
          refine z_aload_n C dL_law_580 1 rfl ?_
          refine z_callVi C (c_X5_firm (zl X) ma s1 h18_1 h18_3) yyX5_firm mlL_81 (zRc_of (i := 0) C (by decide) rfl rfl) dL_law_581 rfl rfl (Nat.le_of_ble_eq_true rfl) (by decide) (fun r51 m51 hr51 hp51 => ?_)
          refine z_aload_n C dL_law_584 2 rfl ?_
          refine z_callVi C (c_X6_firm (zl X) m51 s1 (zRf_after h18_2 hp51.2.2) h18_3) yyX6_firm mlL_84 (zRc_of (i := 31) C (by decide) rfl rfl) dL_law_585 rfl rfl (Nat.le_of_ble_eq_true rfl) (by decide) (fun r52 m52 hr52 hp52 => ?_)
          have heq : r51 = r52 := hp51.1.trans hp52.1.symm
          refine z_icmp_eq C dL_law_588 (tgt := 770) (by decide) (by omega) (by omega) (fun _ => ?_) (fun c53 => (by exfalso; omega))
          refine z_iinc C dL_law_770 3 rfl (by decide) (L' := [(0, _), (1, _), (2, _), (3, _)]) rfl ?_
          refine z_goto C dL_law_773 (tgt := 18) (by decide) ?_
          exact ih18 _ (tFirm s1).2 m52 (by omega) (zCl_after hp51.2.1 hp52.2.2) hp52.2.1 h18_3 (by omega)
        · refine z_tabIn C dL_law_32 (by omega) 17 (by omega) (by omega) (off := 561) (tgt := 593) rfl (by decide) ?_
          refine z_aload_n C dL_law_593 1 rfl ?_
          refine z_aload_n C dL_law_594 0 rfl ?_
          refine z_iload_n C dL_law_595 3 rfl ?_
          refine z_iconst C dL_law_596 ?_
          refine z_iadd C dL_law_597 ?_
          refine z_sld C hSc dL_law_598 (by omega) ?_
          refine z_callVi C (c_X5_row (zl X) ma s1 h18_1 h18_3 ((xs (i + 1).toNat).toInt) (zR_toInt _)) yyX5_row mlL_85 (zRc_of (i := 0) C (by decide) rfl rfl) dL_law_599 rfl rfl (Nat.le_of_ble_eq_true rfl) (by decide) (fun r54 m54 hr54 hp54 => ?_)
          refine z_aload_n C dL_law_602 2 rfl ?_
          refine z_aload_n C dL_law_603 0 rfl ?_
          refine z_iload_n C dL_law_604 3 rfl ?_
          refine z_iconst C dL_law_605 ?_
          refine z_iadd C dL_law_606 ?_
          refine z_sld C hSc dL_law_607 (by omega) ?_
          refine z_callVi C (c_X6_row (zl X) m54 s1 (zRf_after h18_2 hp54.2.2) h18_3 ((xs (i + 1).toNat).toInt) (zR_toInt _)) yyX6_row mlL_88 (zRc_of (i := 31) C (by decide) rfl rfl) dL_law_608 rfl rfl (Nat.le_of_ble_eq_true rfl) (by decide) (fun r55 m55 hr55 hp55 => ?_)
          have heq : r54 = r55 := hp54.1.trans hp55.1.symm
          refine z_icmp_eq C dL_law_611 (tgt := 770) (by decide) (by omega) (by omega) (fun _ => ?_) (fun c56 => (by exfalso; omega))
          refine z_iinc C dL_law_770 3 rfl (by decide) (L' := [(0, _), (1, _), (2, _), (3, _)]) rfl ?_
          refine z_goto C dL_law_773 (tgt := 18) (by decide) ?_
          exact ih18 _ (tRow s1 ((xs (i + 1).toNat).toInt)).2 m55 (by omega) (zCl_after hp54.2.1 hp55.2.2) hp55.2.1 (tk_row h18_3 _) (by omega)
        · refine z_tabIn C dL_law_32 (by omega) 18 (by omega) (by omega) (off := 584) (tgt := 616) rfl (by decide) ?_
          refine z_aload_n C dL_law_616 1 rfl ?_
          refine z_callVi C (c_X5_rather (zl X) ma s1 h18_1 h18_3) yyX5_rather mlL_89 (zRc_of (i := 0) C (by decide) rfl rfl) dL_law_617 rfl rfl (Nat.le_of_ble_eq_true rfl) (by decide) (fun r57 m57 hr57 hp57 => ?_)
          refine z_aload_n C dL_law_620 2 rfl ?_
          refine z_callVi C (c_X6_rather (zl X) m57 s1 (zRf_after h18_2 hp57.2.2) h18_3) yyX6_rather mlL_92 (zRc_of (i := 31) C (by decide) rfl rfl) dL_law_621 rfl rfl (Nat.le_of_ble_eq_true rfl) (by decide) (fun r58 m58 hr58 hp58 => ?_)
          have heq : r57 = r58 := hp57.1.trans hp58.1.symm
          refine z_icmp_eq C dL_law_624 (tgt := 770) (by decide) (by omega) (by omega) (fun _ => ?_) (fun c59 => (by exfalso; omega))
          refine z_iinc C dL_law_770 3 rfl (by decide) (L' := [(0, _), (1, _), (2, _), (3, _)]) rfl ?_
          refine z_goto C dL_law_773 (tgt := 18) (by decide) ?_
          exact ih18 _ (tRather s1).2 m58 (by omega) (zCl_after hp57.2.1 hp58.2.2) hp58.2.1 (tk_rather h18_3) (by omega)
        · refine z_tabIn C dL_law_32 (by omega) 19 (by omega) (by omega) (off := 597) (tgt := 629) rfl (by decide) ?_
          refine z_aload_n C dL_law_629 1 rfl ?_
          refine z_aload_n C dL_law_630 0 rfl ?_
          refine z_iload_n C dL_law_631 3 rfl ?_
          refine z_iconst C dL_law_632 ?_
          refine z_iadd C dL_law_633 ?_
          refine z_sld C hSc dL_law_634 (by omega) ?_
          refine z_aload_n C dL_law_635 0 rfl ?_
          refine z_iload_n C dL_law_636 3 rfl ?_
          refine z_iconst C dL_law_637 ?_
          refine z_iadd C dL_law_638 ?_
          refine z_sld C hSc dL_law_639 (by omega) ?_
          refine z_callVi C (c_X5_truly (zl X) ma s1 h18_1 h18_3 ((xs (i + 1).toNat).toInt) ((xs (i + 2).toNat).toInt) (zR_toInt _) (zR_toInt _)) yyX5_truly mlL_93 (zRc_of (i := 0) C (by decide) rfl rfl) dL_law_640 rfl rfl (Nat.le_of_ble_eq_true rfl) (by decide) (fun r60 m60 hr60 hp60 => ?_)
          refine z_aload_n C dL_law_643 2 rfl ?_
          refine z_aload_n C dL_law_644 0 rfl ?_
          refine z_iload_n C dL_law_645 3 rfl ?_
          refine z_iconst C dL_law_646 ?_
          refine z_iadd C dL_law_647 ?_
          refine z_sld C hSc dL_law_648 (by omega) ?_
          refine z_aload_n C dL_law_649 0 rfl ?_
          refine z_iload_n C dL_law_650 3 rfl ?_
          refine z_iconst C dL_law_651 ?_
          refine z_iadd C dL_law_652 ?_
          refine z_sld C hSc dL_law_653 (by omega) ?_
          refine z_callVi C (c_X6_truly (zl X) m60 s1 (zRf_after h18_2 hp60.2.2) h18_3 ((xs (i + 1).toNat).toInt) ((xs (i + 2).toNat).toInt) (zR_toInt _) (zR_toInt _)) yyX6_truly mlL_96 (zRc_of (i := 31) C (by decide) rfl rfl) dL_law_654 rfl rfl (Nat.le_of_ble_eq_true rfl) (by decide) (fun r61 m61 hr61 hp61 => ?_)
          have heq : r60 = r61 := hp60.1.trans hp61.1.symm
          refine z_icmp_eq C dL_law_657 (tgt := 770) (by decide) (by omega) (by omega) (fun _ => ?_) (fun c62 => (by exfalso; omega))
          refine z_iinc C dL_law_770 3 rfl (by decide) (L' := [(0, _), (1, _), (2, _), (3, _)]) rfl ?_
          refine z_goto C dL_law_773 (tgt := 18) (by decide) ?_
          exact ih18 _ (tTruly s1 ((xs (i + 1).toNat).toInt) ((xs (i + 2).toNat).toInt)).2 m61 (by omega) (zCl_after hp60.2.1 hp61.2.2) hp61.2.1 (tk_truly h18_3 _ _) (by omega)
        · refine z_tabIn C dL_law_32 (by omega) 20 (by omega) (by omega) (off := 630) (tgt := 662) rfl (by decide) ?_
          refine z_aload_n C dL_law_662 1 rfl ?_
          refine z_callVi C (c_X5_judge (zl X) ma s1 h18_1 h18_3) yyX5_judge mlL_97 (zRc_of (i := 0) C (by decide) rfl rfl) dL_law_663 rfl rfl (Nat.le_of_ble_eq_true rfl) (by decide) (fun r63 m63 hr63 hp63 => ?_)
          refine z_aload_n C dL_law_666 2 rfl ?_
          refine z_callVi C (c_X6_judge (zl X) m63 s1 (zRf_after h18_2 hp63.2.2) h18_3) yyX6_judge mlL_100 (zRc_of (i := 31) C (by decide) rfl rfl) dL_law_667 rfl rfl (Nat.le_of_ble_eq_true rfl) (by decide) (fun r64 m64 hr64 hp64 => ?_)
          have heq : r63 = r64 := hp63.1.trans hp64.1.symm
          refine z_icmp_eq C dL_law_670 (tgt := 770) (by decide) (by omega) (by omega) (fun _ => ?_) (fun c65 => (by exfalso; omega))
          refine z_iinc C dL_law_770 3 rfl (by decide) (L' := [(0, _), (1, _), (2, _), (3, _)]) rfl ?_
          refine z_goto C dL_law_773 (tgt := 18) (by decide) ?_
          exact ih18 _ (tJudge s1).2 m64 (by omega) (zCl_after hp63.2.1 hp64.2.2) hp64.2.1 (sOK_M h18_3) (by omega)
        · refine z_tabIn C dL_law_32 (by omega) 21 (by omega) (by omega) (off := 643) (tgt := 675) rfl (by decide) ?_
          refine z_aload_n C dL_law_675 1 rfl ?_
          refine z_callVi C (c_X5_clear (zl X) ma (gM s1) h18_1.2.2.2.2.1) yyX5_clear mlL_101 (zRc_of (i := 0) C (by decide) rfl rfl) dL_law_676 rfl rfl (Nat.le_of_ble_eq_true rfl) (by decide) (fun r66 m66 hr66 hp66 => ?_)
          refine z_aload_n C dL_law_679 2 rfl ?_
          refine z_callVi C (c_X6_clear (zl X) m66 s1 (zRf_after h18_2 (fun a a0 a1 => by rw [hp66.2, zs_ne _ _ _ (by omega)])) h18_3) yyX6_clear mlL_104 (zRc_of (i := 31) C (by decide) rfl rfl) dL_law_680 rfl rfl (Nat.le_of_ble_eq_true rfl) (by decide) (fun r67 m67 hr67 hp67 => ?_)
          have heq : r66 = r67 := hp66.1.trans hp67.1.symm
          refine z_icmp_eq C dL_law_683 (tgt := 770) (by decide) (by omega) (by omega) (fun _ => ?_) (fun c68 => (by exfalso; omega))
          refine z_iinc C dL_law_770 3 rfl (by decide) (L' := [(0, _), (1, _), (2, _), (3, _)]) rfl ?_
          refine z_goto C dL_law_773 (tgt := 18) (by decide) ?_
          exact ih18 _ (tClear s1).2 m67 (by omega) (zCl_after (by rw [hp66.2]; exact zCl_M h18_1) hp67.2.2) hp67.2.1 (sOK_M h18_3) (by omega)
        · refine z_tabIn C dL_law_32 (by omega) 22 (by omega) (by omega) (off := 656) (tgt := 688) rfl (by decide) ?_
          refine z_aload_n C dL_law_688 1 rfl ?_
          refine z_aload_n C dL_law_689 0 rfl ?_
          refine z_iload_n C dL_law_690 3 rfl ?_
          refine z_iconst C dL_law_691 ?_
          refine z_iadd C dL_law_692 ?_
          refine z_sld C hSc dL_law_693 (by omega) ?_
          refine z_aload_n C dL_law_694 0 rfl ?_
          refine z_iload_n C dL_law_695 3 rfl ?_
          refine z_iconst C dL_law_696 ?_
          refine z_iadd C dL_law_697 ?_
          refine z_sld C hSc dL_law_698 (by omega) ?_
          refine z_callVi C (c_X5_lots (zl X) ma s1 h18_1 h18_3 ((xs (i + 1).toNat).toInt) ((xs (i + 2).toNat).toInt) (zR_toInt _) (zR_toInt _)) yyX5_lots mlL_105 (zRc_of (i := 0) C (by decide) rfl rfl) dL_law_699 rfl rfl (Nat.le_of_ble_eq_true rfl) (by decide) (fun r69 m69 hr69 hp69 => ?_)
          refine z_aload_n C dL_law_702 2 rfl ?_
          refine z_aload_n C dL_law_703 0 rfl ?_
          refine z_iload_n C dL_law_704 3 rfl ?_
          refine z_iconst C dL_law_705 ?_
          refine z_iadd C dL_law_706 ?_
          refine z_sld C hSc dL_law_707 (by omega) ?_
          refine z_aload_n C dL_law_708 0 rfl ?_
          refine z_iload_n C dL_law_709 3 rfl ?_
          refine z_iconst C dL_law_710 ?_
          refine z_iadd C dL_law_711 ?_
          refine z_sld C hSc dL_law_712 (by omega) ?_
          refine z_callVi C (c_X6_lots (zl X) m69 s1 (zRf_after h18_2 hp69.2.2) h18_3 ((xs (i + 1).toNat).toInt) ((xs (i + 2).toNat).toInt) (zR_toInt _) (zR_toInt _)) yyX6_lots mlL_108 (zRc_of (i := 31) C (by decide) rfl rfl) dL_law_713 rfl rfl (Nat.le_of_ble_eq_true rfl) (by decide) (fun r70 m70 hr70 hp70 => ?_)
          have heq : r69 = r70 := hp69.1.trans hp70.1.symm
          refine z_icmp_eq C dL_law_716 (tgt := 770) (by decide) (by omega) (by omega) (fun _ => ?_) (fun c71 => (by exfalso; omega))
          refine z_iinc C dL_law_770 3 rfl (by decide) (L' := [(0, _), (1, _), (2, _), (3, _)]) rfl ?_
          refine z_goto C dL_law_773 (tgt := 18) (by decide) ?_
          exact ih18 _ (tLots s1 ((xs (i + 1).toNat).toInt) ((xs (i + 2).toNat).toInt)).2 m70 (by omega) (zCl_after hp69.2.1 hp70.2.2) hp70.2.1 (tk_lots h18_3 _ _) (by omega)
        · refine z_tabIn C dL_law_32 (by omega) 23 (by omega) (by omega) (off := 689) (tgt := 721) rfl (by decide) ?_
          refine z_aload_n C dL_law_721 1 rfl ?_
          refine z_callVi C (c_X5_image (zl X) ma s1 h18_1 h18_3) yyX5_image mlL_109 (zRc_of (i := 0) C (by decide) rfl rfl) dL_law_722 rfl rfl (Nat.le_of_ble_eq_true rfl) (by decide) (fun r72 m72 hr72 hp72 => ?_)
          refine z_aload_n C dL_law_725 2 rfl ?_
          refine z_callVi C (c_X6_image (zl X) m72 s1 (zRf_after h18_2 hp72.2.2) h18_3) yyX6_image mlL_112 (zRc_of (i := 31) C (by decide) rfl rfl) dL_law_726 rfl rfl (Nat.le_of_ble_eq_true rfl) (by decide) (fun r73 m73 hr73 hp73 => ?_)
          have heq : r72 = r73 := hp72.1.trans hp73.1.symm
          refine z_icmp_eq C dL_law_729 (tgt := 770) (by decide) (by omega) (by omega) (fun _ => ?_) (fun c74 => (by exfalso; omega))
          refine z_iinc C dL_law_770 3 rfl (by decide) (L' := [(0, _), (1, _), (2, _), (3, _)]) rfl ?_
          refine z_goto C dL_law_773 (tgt := 18) (by decide) ?_
          exact ih18 _ (tImage s1).2 m73 (by omega) (zCl_after hp72.2.1 hp73.2.2) hp73.2.1 (sOK_I h18_3 h18_3.1) (by omega)
        · refine z_tabIn C dL_law_32 (by omega) 24 (by omega) (by omega) (off := 702) (tgt := 734) rfl (by decide) ?_
          refine z_aload_n C dL_law_734 1 rfl ?_
          refine z_callVi C (c_X5_on (zl X) ma s1 h18_1 h18_3) yyX5_on mlL_113 (zRc_of (i := 0) C (by decide) rfl rfl) dL_law_735 rfl rfl (Nat.le_of_ble_eq_true rfl) (by decide) (fun r75 m75 hr75 hp75 => ?_)
          refine z_aload_n C dL_law_738 2 rfl ?_
          refine z_callVi C (c_X6_on (zl X) m75 s1 (zRf_after h18_2 hp75.2.2) h18_3) yyX6_on mlL_116 (zRc_of (i := 31) C (by decide) rfl rfl) dL_law_739 rfl rfl (Nat.le_of_ble_eq_true rfl) (by decide) (fun r76 m76 hr76 hp76 => ?_)
          have heq : r75 = r76 := hp75.1.trans hp76.1.symm
          refine z_icmp_eq C dL_law_742 (tgt := 770) (by decide) (by omega) (by omega) (fun _ => ?_) (fun c77 => (by exfalso; omega))
          refine z_iinc C dL_law_770 3 rfl (by decide) (L' := [(0, _), (1, _), (2, _), (3, _)]) rfl ?_
          refine z_goto C dL_law_773 (tgt := 18) (by decide) ?_
          exact ih18 _ (tOn s1).2 m76 (by omega) (zCl_after hp75.2.1 hp76.2.2) hp76.2.1 (tk_on h18_3) (by omega)
        · refine z_tabIn C dL_law_32 (by omega) 25 (by omega) (by omega) (off := 715) (tgt := 747) rfl (by decide) ?_
          refine z_aload_n C dL_law_747 1 rfl ?_
          refine z_aload_n C dL_law_748 0 rfl ?_
          refine z_iload_n C dL_law_749 3 rfl ?_
          refine z_iconst C dL_law_750 ?_
          refine z_iadd C dL_law_751 ?_
          refine z_sld C hSc dL_law_752 (by omega) ?_
          refine z_callVi C (c_X5_count (zl X) ma s1 h18_1 h18_3 ((xs (i + 1).toNat).toInt) (zR_toInt _)) yyX5_count mlL_117 (zRc_of (i := 0) C (by decide) rfl rfl) dL_law_753 rfl rfl (Nat.le_of_ble_eq_true rfl) (by decide) (fun r78 m78 hr78 hp78 => ?_)
          refine z_aload_n C dL_law_756 2 rfl ?_
          refine z_aload_n C dL_law_757 0 rfl ?_
          refine z_iload_n C dL_law_758 3 rfl ?_
          refine z_iconst C dL_law_759 ?_
          refine z_iadd C dL_law_760 ?_
          refine z_sld C hSc dL_law_761 (by omega) ?_
          refine z_callVi C (c_X6_count (zl X) m78 s1 (zRf_after h18_2 hp78.2.2) h18_3 ((xs (i + 1).toNat).toInt) (zR_toInt _)) yyX6_count mlL_120 (zRc_of (i := 31) C (by decide) rfl rfl) dL_law_762 rfl rfl (Nat.le_of_ble_eq_true rfl) (by decide) (fun r79 m79 hr79 hp79 => ?_)
          have heq : r78 = r79 := hp78.1.trans hp79.1.symm
          refine z_icmp_eq C dL_law_765 (tgt := 770) (by decide) (by omega) (by omega) (fun _ => ?_) (fun c80 => (by exfalso; omega))
          refine z_iinc C dL_law_770 3 rfl (by decide) (L' := [(0, _), (1, _), (2, _), (3, _)]) rfl ?_
          refine z_goto C dL_law_773 (tgt := 18) (by decide) ?_
          exact ih18 _ (tCount s1 ((xs (i + 1).toNat).toInt)).2 m79 (by omega) (zCl_after hp78.2.1 hp79.2.2) hp79.2.1 (tk_count h18_3 _) (by omega)
  exact LP18 _ 0 s μ (by omega) hs hr ho (Nat.lt_succ_self _)
