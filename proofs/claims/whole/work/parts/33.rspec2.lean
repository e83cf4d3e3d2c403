/-! links between how the class and how the reference reckon -/
theorem lk_o {μ : zM} {v : zVw} (h : zQ μ v) {p j : Int} (hp : 0 ≤ p ∧ p < 10) (j0 : 0 ≤ j) (j1 : j < 5) : μ 34 (5 * p + j) = vA v p (sOth p j) := by
  obtain ⟨-, -, -, -, -, -, h7⟩ := h
  have e : zU p (sOth p j) ∧ sOth p j % 5 = j := by unfold sOth; split <;> omega
  rw [← h7 p (sOth p j) e.1, e.2]
theorem sOth_b {p j : Int} (hp : 0 ≤ p ∧ p < 10) (hj : 0 ≤ j ∧ j < 5) : zU p (sOth p j) ∧ sOth p j % 5 = j ∧ 0 ≤ sOth p j ∧ sOth p j < 10 := by unfold sOth; split <;> omega
theorem dr_end {v : zVw} {p z d : Int} (hp : 0 ≤ p ∧ p < 10) (h : (d = -1 ∧ sFavN v p z 5 = -9) ∨ (0 ≤ d ∧ d < 5 ∧ sFavN v p z 5 = sOth p d)) : d = if sFav v p z = -9 then -1 else sFav v p z % 5 := by
  unfold sFav
  rcases h with ⟨e1, e2⟩ | ⟨e1, e2, e3⟩
  · rw [if_pos e2]; exact e1
  · have := sOth_b hp ⟨e1, e2⟩
    rw [e3, if_neg (by omega)]
    omega
theorem sShN_stop {v : zVw} {p : Int} {k : Nat} (h : ∀ j : Int, (k : Int) ≤ j → sPar v p j = -9) : ∀ n, sShN v p (k + n) = sShN v p k
  | 0 => rfl
  | n + 1 => by
    rw [show k + (n + 1) = (k + n) + 1 by omega, sShN, sShN_stop h n, if_neg (fun z => z.1 (h _ (by omega))), Int.add_zero]
theorem sShN_5 {v : zVw} (ho : vOK v) {p k : Int} (hk : 0 ≤ k ∧ k ≤ 5) (h : ¬ vTh v p ∨ vN v ≤ k) : sShN v p 5 = sShN v p k.toNat := by
  rw [show (5 : Nat) = k.toNat + (5 - k).toNat by omega]
  refine sShN_stop (fun j hj => ?_) _
  unfold sPar
  rw [if_neg (by omega)]
theorem zbit_p5 {p : Int} (h : 5 ≤ p ∧ p < 10) : zshl 1 (p - 5) = zbit p := by
  unfold zbit
  rw [show p % 5 = p - 5 by omega]
theorem zM_ext {m μ : zM} (h : ∀ a x, m a x = μ a x) : m = μ := funext fun a => funext fun x => h a x
/-- pairs -/
theorem sPbN_has {f : Int → Int} (p : Int) : ∀ n : Nat, n ≤ 5 → ∀ j : Int, 0 ≤ j → j < 5 → ((¬ zand (sPbN f p n) (zbit j) = 0) ↔ (j < (n : Int) ∧ sTwo f p (sOth p j)))
  | 0, _, j, j0, j1 => by
    show (¬ zand 0 (zbit j) = 0) ↔ _
    rw [zand_0 j j0 (by omega)]
    exact ⟨fun h => absurd rfl h, fun h => by omega⟩
  | n + 1, h, j, j0, j1 => by
    have hb := sPbN_b f p n (by omega)
    have ih := sPbN_has (f := f) p n (by omega) j j0 j1
    rw [sPbN]
    by_cases q : sTwo f p (sOth p (n : Int))
    · rw [if_pos q, zbit_o p (n : Int), zor_has _ hb.1 hb.2 _ (by omega) (by omega) j j0 (by omega), ih]
      constructor
      · rintro (z | z)
        · exact ⟨by omega, z.2⟩
        · have : j = (n : Int) := by omega
          rw [this]
          exact ⟨by omega, q⟩
      · rintro ⟨z1, z2⟩
        by_cases e : j = (n : Int)
        · right; rw [e]
        · left; exact ⟨by omega, z2⟩
    · rw [if_neg q, ih]
      constructor
      · rintro ⟨z1, z2⟩
        exact ⟨by omega, z2⟩
      · rintro ⟨z1, z2⟩
        refine ⟨?_, z2⟩
        by_cases e : j = (n : Int)
        · rw [e] at z2; exact absurd z2 q
        · omega
/-- sets for all; none of who isn't there -/
def zNo (v : zVw) (f : Int → Int) : Prop := ∀ p, 0 ≤ p → p < 10 → (0 ≤ f p ∧ f p < 32) ∧ (¬ vTh v p → f p = 0)
theorem zNo_two {v : zVw} {f : Int → Int} (h : zNo v f) {p q : Int} (hp : 0 ≤ p ∧ p < 10) (hq : 0 ≤ q ∧ q < 10) (z : sTwo f p q) : vTh v p ∧ vTh v q := by
  constructor
  · refine Decidable.byContradiction fun y => ?_
    have := z.1
    rw [(h p hp.1 hp.2).2 y, zand_0 q hq.1 hq.2] at this
    exact this rfl
  · refine Decidable.byContradiction fun y => ?_
    have := z.2
    rw [(h q hq.1 hq.2).2 y, zand_0 p hp.1 hp.2] at this
    exact this rfl
theorem sPb_bld {v : zVw} (ho : vOK v) {f : Int → Int} (h : zNo v f) {p : Int} (hp : 0 ≤ p ∧ p < 10) : sPb f p = zBld (fun j => decide (sTwo f p (sOth p j))) (vF v p).toNat := by
  have hF := vF_b ho p
  have hb := zBld_b (fun j => decide (sTwo f p (sOth p j))) (vF v p).toNat (by omega)
  have hb2 := sPbN_b f p 5 (by omega)
  refine zset_ext _ hb2.1 hb2.2 _ hb.1 hb.2 (fun j j0 j1 => ?_)
  rw [zBld_has _ _ (by omega) j j0 j1, sPbN_has p 5 (by omega) j j0 j1, decide_eq_true_iff]
  refine ⟨fun z => ⟨?_, z.2⟩, fun z => ⟨by omega, z.2⟩⟩
  have h1 := zNo_two h hp (sOth_b hp ⟨j0, j1⟩).2.2 z.2
  have := (vF_th hp ⟨j0, j1⟩).1 h1.2
  omega
theorem zSum_ext {f : Int → Int} {a : Int} (h0 : 0 ≤ a) (h : ∀ i : Int, a ≤ i → f i = 0) : ∀ n : Nat, zSum f (a.toNat + n) = zSum f a.toNat
  | 0 => rfl
  | n + 1 => by
    rw [show a.toNat + (n + 1) = (a.toNat + n) + 1 by omega, zSum, zSum_ext h0 h n, h _ (by omega), Int.add_zero]
theorem zSum_5 {f : Int → Int} {a : Int} (h0 : 0 ≤ a ∧ a ≤ 5) (h : ∀ i : Int, a ≤ i → i < 5 → f i = 0) : zSum f 5 = zSum f a.toNat := by
  have e := zSum_ext (f := fun i => if i < 5 then f i else 0) h0.1 (fun i hi => by
    show (if i < 5 then f i else 0) = 0
    by_cases q : i < 5
    · rw [if_pos q]; exact h i hi q
    · rw [if_neg q]) (5 - a).toNat
  have c : ∀ n : Nat, n ≤ 5 → zSum (fun i => if i < 5 then f i else 0) n = zSum f n := fun n hn => zSum_cong n (fun i i0 i1 => if_pos (by omega))
  rw [show a.toNat + (5 - a).toNat = 5 by omega, c 5 (by omega), c a.toNat (by omega)] at e
  exact e
def sApR (v : zVw) (f : Int → Int) (w l : Int) : Int → Int := fun r => if sTwo f l (5 + r) then (if w = 0 then 1 else vA v l (5 + r) + vA v (5 + r) l) else 0
def sApL (v : zVw) (f : Int → Int) (w : Int) : Int → Int := fun l => zSum (sApR v f w l) (vR v).toNat
def sAp (v : zVw) (f : Int → Int) (w : Int) : Int := zSum (sApL v f w) (vL v).toNat
theorem sApR_b {v : zVw} (ho : vOK v) (f : Int → Int) (w : Int) {l : Int} (hl : 0 ≤ l ∧ l < 5) (n : Nat) (hn : n ≤ 5) : 0 ≤ zSum (sApR v f w l) n ∧ zSum (sApR v f w l) n ≤ 18 * (n : Int) := by
  refine zSum_b n (fun r r0 r1 => ?_)
  have h1 := ho.2.2.2.2.2.2 l (5 + r) (by omega)
  have h2 := ho.2.2.2.2.2.2 (5 + r) l (by omega)
  unfold sApR
  split <;> (try split) <;> omega
theorem sApL_b {v : zVw} (ho : vOK v) (f : Int → Int) (w : Int) (n : Nat) (hn : n ≤ 5) : 0 ≤ zSum (sApL v f w) n ∧ zSum (sApL v f w) n ≤ 90 * (n : Int) := by
  refine zSum_b n (fun l l0 l1 => ?_)
  have o2 := ho.2.1
  have h1 := sApR_b ho f w (l := l) (by omega) (vR v).toNat (by omega)
  unfold sApL
  omega
theorem zand_eq {a b c : Int} (e : b = c) (h : ¬ zand a b = 0) : ¬ zand a c = 0 := e ▸ h
theorem sPb_has5 {f : Int → Int} {l r : Int} (l1 : l < 5) (r0 : 0 ≤ r) (r1 : r < 5) : (¬ zand (sPb f l) (zbit (5 + r)) = 0) ↔ sTwo f l (5 + r) := by
  have e := sPbN_has (f := f) l 5 (by omega) r r0 r1
  rw [sOth_l l1] at e
  exact ⟨fun z => (e.1 (zand_eq (zbit_5 r) z)).2, fun z => zand_eq (zbit_5 r).symm (e.2 ⟨by omega, z⟩)⟩
theorem sAp_g {v : zVw} (ho : vOK v) {f : Int → Int} (h : zNo v f) : sAp v f 1 = sGlad v (sPb f) := by
  have o1 := ho.1
  have o2 := ho.2.1
  have hR : ∀ l : Int, 0 ≤ l → l < 5 → zSum (sApR v f 1 l) 5 = sGl v (sPb f) l := fun l l0 l1 => by
    unfold sGl
    refine zSum_cong 5 (fun r r0 r1 => ?_)
    unfold sApR sGr
    have e := sPb_has5 (f := f) (l := l) (r := r) l1 r0 (by omega)
    by_cases q : sTwo f l (5 + r)
    · rw [if_pos q, if_pos (e.2 q), if_neg (by omega)]
    · rw [if_neg q, if_neg (fun z => q (e.1 z))]
  have h0 : ∀ l r : Int, 0 ≤ l → l < 5 → 0 ≤ r → r < 5 → ¬ (l < vL v ∧ r < vR v) → sApR v f 1 l r = 0 := fun l r l0 l1 r0 r1 q => by
    unfold sApR
    rw [if_neg (fun z => q (by have := zNo_two h (p := l) (q := 5 + r) (by omega) (by omega) z; omega))]
  unfold sGlad sAp
  rw [← zSum_5 (f := sApL v f 1) o1 (fun l l0 l1 => by
    have := zSum_cong (f := sApR v f 1 l) (g := fun _ => 0) (vR v).toNat (fun r r0 r1 => h0 l r (by omega) l1 r0 (by omega) (by omega))
    unfold sApL
    rw [this]
    have z : ∀ n : Nat, zSum (fun _ => 0) n = 0 := fun n => by
      induction n with
      | zero => rfl
      | succ n ih => rw [zSum, ih]; rfl
    exact z _)]
  refine zSum_cong 5 (fun l l0 l1 => ?_)
  rw [← hR l l0 (by omega)]
  unfold sApL
  exact (zSum_5 o2 (fun r r0 r1 => h0 l r l0 (by omega) (by omega) r1 (by omega))).symm
theorem sPop_t : ∀ s : Int, 0 ≤ s → s < 32 → sPop s = zSum (fun r => if ¬ zand s (zbit r) = 0 then 1 else 0) 5 := by
  have key : ((List.range 32).all fun i => decide (sPop (i : Int) = zSum (fun r => if ¬ zand (i : Int) (zbit r) = 0 then 1 else 0) 5)) = true := by decide +kernel
  intro s h1 h2
  have h5 := List.all_eq_true.mp key s.toNat (List.mem_range.mpr (by omega))
  rw [Int.toNat_of_nonneg h1] at h5
  exact of_decide_eq_true h5
theorem sAp_p {v : zVw} (ho : vOK v) {f : Int → Int} (h : zNo v f) : sAp v f 0 = zSum (fun p => sPop (sPb f p)) 5 := by
  have o1 := ho.1
  have o2 := ho.2.1
  have hR : ∀ l : Int, 0 ≤ l → l < 5 → zSum (sApR v f 0 l) 5 = sPop (sPb f l) := fun l l0 l1 => by
    have hb : 0 ≤ sPb f l ∧ sPb f l < 32 := sPbN_b f l 5 (by omega)
    rw [sPop_t _ hb.1 hb.2]
    refine zSum_cong 5 (fun r r0 r1 => ?_)
    unfold sApR
    have e := sPbN_has (f := f) l 5 (by omega) r r0 (by omega)
    have e2 : sOth l r = 5 + r := sOth_l l1
    rw [e2] at e
    by_cases q : sTwo f l (5 + r)
    · rw [if_pos q, if_pos rfl]
      exact (if_pos (e.2 ⟨by omega, q⟩)).symm
    · rw [if_neg q]
      exact (if_neg (fun z => q (e.1 z).2)).symm
  have h0 : ∀ l r : Int, 0 ≤ l → l < 5 → 0 ≤ r → r < 5 → ¬ (l < vL v ∧ r < vR v) → sApR v f 0 l r = 0 := fun l r l0 l1 r0 r1 q => by
    unfold sApR
    rw [if_neg (fun z => q (by have := zNo_two h (p := l) (q := 5 + r) (by omega) (by omega) z; omega))]
  unfold sAp
  rw [← zSum_5 (f := sApL v f 0) o1 (fun l l0 l1 => by
    have := zSum_cong (f := sApR v f 0 l) (g := fun _ => 0) (vR v).toNat (fun r r0 r1 => h0 l r (by omega) l1 r0 (by omega) (by omega))
    unfold sApL
    rw [this]
    have z : ∀ n : Nat, zSum (fun _ => 0) n = 0 := fun n => by
      induction n with
      | zero => rfl
      | succ n ih => rw [zSum, ih]; rfl
    exact z _)]
  refine zSum_cong 5 (fun l l0 l1 => ?_)
  show _ = sPop (sPb f l)
  rw [← hR l l0 (by omega)]
  unfold sApL
  exact (zSum_5 o2 (fun r r0 r1 => h0 l r l0 (by omega) (by omega) r1 (by omega))).symm
/-- the sets that count, none of who isn't there -/
theorem sFav_0 (v : zVw) {p : Int} (hp : 0 ≤ p ∧ p < 10) : sFav v p 0 = -9 := by
  rcases sFav_U v 0 hp with h | ⟨h1, h2⟩
  · exact h
  · rw [zand_0 _ (by omega) (by omega)] at h2
    exact absurd rfl h2
theorem zand_z0 (x : Int) : zand 0 x = 0 := by
  unfold zand
  show ((0 : Int32) &&& iI x).toInt = 0
  rw [Int32.zero_and]
  rfl
theorem sLkN_0 (v : zVw) {p : Int} (hp : 0 ≤ p ∧ p < 10) : ∀ n, sLkN v p 0 n = 0
  | 0 => rfl
  | n + 1 => by
    rw [sLkN, sLkN_0 v hp n, zand_z0, if_pos (sFav_0 v hp)]
theorem sVl_no {v : zVw} (ho : vOK v) (w : Int) : zNo v (sVl v w) := fun p p0 p1 => by
  refine ⟨sVl_b ho w ⟨p0, p1⟩, fun h => ?_⟩
  unfold sVl sVal
  rw [sSl_no ho h, sLkN_0 v ⟨p0, p1⟩, sLkN_0 v ⟨p0, p1⟩, zand_z0]
  split
  · rfl
  · split
    · rfl
    · split
      · split <;> rfl
      · rfl
