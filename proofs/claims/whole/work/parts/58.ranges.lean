/-! Ranges of what is read and of the reference's bowls. -/
theorem dg_v {x : Int32} (h : fIs x 48 57 = true) : ∃ d, d ≤ 9 ∧ x - 48 = nI d := by
  simp only [fIs, Bool.and_eq_true, decide_eq_true_eq] at h
  obtain ⟨a, ha, rfl⟩ := nI_ge0 (x := x) (Int32.le_trans (by decide) h.1)
  have h1 := h.1
  have h2 := h.2
  rw [show (48 : Int32) = nI 48 from rfl, nI_leI (by decide) ha] at h1
  rw [show (57 : Int32) = nI 57 from rfl, nI_leI ha (by decide)] at h2
  exact ⟨a - 48, by omega, by rw [show (48 : Int32) = nI 48 from rfl, nI_subN h1]⟩
theorem rn1 {F : Nat → Int32} {n p q : Nat} {v : Int32} (h : rnF F n 1 p = some (q, v)) : ∃ d, d ≤ 9 ∧ v = nI d := by
  unfold rnF at h
  by_cases q1 : dgF F n p = true
  · rw [if_pos q1, if_neg (fun q => absurd q.1 (by decide))] at h
    obtain ⟨d, hd, e⟩ := dg_v q1
    cases h; exact ⟨d, hd, e⟩
  · rw [if_neg q1] at h; cases h
theorem rn2 {F : Nat → Int32} {n p q : Nat} {v : Int32} (h : rnF F n 2 p = some (q, v)) : ∃ d, d ≤ 99 ∧ v = nI d := by
  unfold rnF at h
  by_cases q1 : dgF F n p = true
  · rw [if_pos q1] at h
    obtain ⟨d, hd, e⟩ := dg_v q1
    by_cases q2 : (1 : Int32) < 2 ∧ 0 < hrF F n p - 48 ∧ dgF F n (p + 1) = true
    · rw [if_pos q2] at h
      obtain ⟨d2, hd2, e2⟩ := dg_v q2.2.2
      cases h
      refine ⟨10 * d + d2, by omega, ?_⟩
      rw [Int32.sub_eq_add_neg, Int32.add_assoc, ← Int32.sub_eq_add_neg, e, e2, show (10 : Int32) = nI 10 from rfl, nI_mulN, nI_add]
    · rw [if_neg q2] at h
      cases h; exact ⟨d, by omega, e⟩
  · rw [if_neg q1] at h; cases h
/-- the numbers' ranges, by the statement's sign -/
def VsR (c : Int32) (vs : Nat → Int32) : Prop := (c = 98 → (∃ d, d ≤ 9 ∧ vs 0 = nI d) ∧ (∃ d, d ≤ 9 ∧ vs 1 = nI d) ∧ (∃ d, d ≤ 9 ∧ vs 2 = nI d) ∧ (∃ d, d ≤ 99 ∧ vs 3 = nI d) ∧ (∃ d, d ≤ 99 ∧ vs 4 = nI d)) ∧ (c = 116 ∨ c = 119 → ∃ d, d ≤ 9 ∧ vs 0 = nI d)
theorem stF_vs {F : Nat → Int32} {n p q : Nat} {vs : Nat → Int32} (h : stF F n p = .inr (q, vs)) : VsR (hrF F n p) vs := by
  unfold stF at h
  split at h
  · rename_i z98
    cases h1 : rnF F n 1 (p + 1) with
    | none => rw [bnd_n h1] at h; cases h
    | some r1 =>
      rw [bnd_s h1] at h
      cases h2 : rnF F n 1 r1.1 with
      | none => rw [bnd_n h2] at h; cases h
      | some r2 =>
        rw [bnd_s h2] at h
        cases h3 : rnF F n 1 r2.1 with
        | none => rw [bnd_n h3] at h; cases h
        | some r3 =>
          rw [bnd_s h3] at h
          cases h4 : rnF F n 2 r3.1 with
          | none => rw [bnd_n h4] at h; cases h
          | some r4 =>
            rw [bnd_s h4] at h
            split at h
            · cases h5 : rnF F n 2 (r4.1 + 1) with
              | none => rw [bnd_n h5] at h; cases h
              | some r5 =>
                rw [bnd_s h5] at h
                split at h
                · rename_i q9
                  cases h
                  exact ⟨fun _ => ⟨rn1 h1, rn1 h2, rn1 h3, rn2 h4, rn2 h5⟩, fun q => q.elim (fun q => by rw [z98] at q; exact absurd q (by decide)) (fun q => by rw [z98] at q; exact absurd q (by decide))⟩
                · cases h
            · cases h
  · rename_i z98
    split at h
    · rename_i z116
      cases h1 : rnF F n 1 (p + 1) with
      | none => rw [bnd_n h1] at h; cases h
      | some r1 =>
        rw [bnd_s h1] at h
        split at h
        · rename_i q9
          cases h
          exact ⟨fun q => absurd q z98, fun _ => rn1 h1⟩
        · cases h
    · rename_i z116
      split at h
      · split at h
        · rename_i q9
          cases h
          exact ⟨fun q => absurd q z98, fun q => absurd q z116⟩
        · cases h
      · cases h
/-- the ranges of a bowl -/
def Rgb (B : zBv) (b : Nat) : Prop := (∃ k, k ≤ 7 ∧ B 0 b = nI k) ∧ (∃ f, f ≤ 9 ∧ B 1 b = nI f) ∧ (∃ t, t ≤ 1 ∧ B 2 b = nI t) ∧ (∃ s, 1 ≤ s ∧ s ≤ 99 ∧ B 3 b = nI s) ∧ (∃ d, 1 ≤ d ∧ d ≤ 99 ∧ B 4 b = nI d)
theorem Rgb.cong {B B2 : zBv} {b b2 : Nat} (h : Rgb B b) (e : ∀ k, k < 5 → B2 k b2 = B k b) : Rgb B2 b2 := by
  unfold Rgb
  rw [e 0 (by decide), e 1 (by decide), e 2 (by decide), e 3 (by decide), e 4 (by decide)]
  exact h
def Mrw (w : ww) (c : Nat) : Prop := c ≤ 9 ∧ w 58 0 = nI c ∧ (∃ v, v ≤ 9 ∧ w 58 1 = nI v) ∧ ∀ b, b < c → Rgb (mB w) b
theorem Mrw.mow {w : ww} {c : Nat} (h : Mrw w c) : Mow w c := by
  refine ⟨h.1, h.2.1, fun b hb => ?_⟩
  obtain ⟨k, hk, e⟩ := (h.2.2.2 b hb).1
  rw [e]; exact vpn (by omega) (by decide)
theorem mAd_Bg {w : ww} {c : Nat} {k f t s d : Int32} : ∀ j b, j < 5 → mB (mAd w c k f t s d) j b = if b = c then v5 k f t s d j else mB w j b := by
  intro j b hj
  by_cases q : b = c
  · subst q
    rw [if_pos rfl]
    unfold mB mAd
    rcases (by omega : j = 0 ∨ j = 1 ∨ j = 2 ∨ j = 3 ∨ j = 4) with rfl | rfl | rfl | rfl | rfl
    · rw [wu_nj (by omega), wu_nj (by omega), wu_nj (by omega), wu_nj (by omega), wu_eq]; rfl
    · rw [wu_nj (by omega), wu_nj (by omega), wu_nj (by omega), wu_eq]; rfl
    · rw [wu_nj (by omega), wu_nj (by omega), wu_eq]; rfl
    · rw [wu_nj (by omega), wu_eq]; rfl
    · rw [wu_eq]; rfl
  · rw [if_neg q]
    unfold mB mAd
    rw [wu_nj (by omega), wu_nj (by omega), wu_nj (by omega), wu_nj (by omega), wu_nj (by omega)]
theorem mB_lo {w : ww} {i : Nat} {v : Int32} (h : i < 2) : mB (wu w 58 i v) = mB w := by
  funext k b; unfold mB; rw [wu_nj (by omega)]
theorem mB_tn {w : ww} {a : Nat} {v : Int32} {j b : Nat} (hj : j < 5) : mB (wu w 58 (2 + 5 * a + 2) v) j b = if b = a ∧ j = 2 then v else mB w j b := by
  unfold mB
  by_cases q : b = a ∧ j = 2
  · rw [if_pos q, q.1, q.2, wu_eq]
  · rw [if_neg q, wu_nj (by omega)]
theorem mtl_ok {w u : ww} {cN : Nat} {c : Int32} {vs : Nat → Int32} (hM : Mrw w cN) (hv : VsR c vs) (h : mtl w cN c vs = some u) : (∃ c2, Mrw u c2) ∧ ∀ o, o ≠ 58 → u o = w o := by
  have hc9 := hM.1
  have h0 := hM.2.1
  have hz := hM.2.2.1
  unfold mtl at h
  split at h
  · rename_i z98
    split at h
    · rename_i zb
      cases h
      obtain ⟨z1, z2, z3, z4, z5⟩ := zb
      obtain ⟨⟨d0, x0, e0⟩, ⟨d1, x1, e1⟩, ⟨d2, x2, e2⟩, ⟨d3, x3, e3⟩, ⟨d4, x4, e4⟩⟩ := hv.1 z98
      rw [e0, show (8 : Int32) = nI 8 from rfl, nI_ltI (by omega) (by decide)] at z1
      rw [e2, show (2 : Int32) = nI 2 from rfl, nI_ltI (by omega) (by decide)] at z2
      rw [e3, show (0 : Int32) = nI 0 from rfl, nI_ltI (by decide) (by omega)] at z3
      rw [e4, show (0 : Int32) = nI 0 from rfl, nI_ltI (by decide) (by omega)] at z4
      refine ⟨⟨cN + 1, by omega, wu_eq, ?_, fun b hb => ?_⟩, fun o ho => ?_⟩
      · rw [wu_nj (by decide), mAd_1]; exact hz
      · rw [mB_lo (by decide)]
        by_cases q : b = cN
        · subst q
          refine Rgb.cong (B := fun k _ => v5 (vs 0) (vs 1) (vs 2) (vs 3) (vs 4) k) (b := 0) ⟨⟨d0, by omega, e0⟩, ⟨d1, x1, e1⟩, ⟨d2, by omega, e2⟩, ⟨d3, by omega, x3, e3⟩, ⟨d4, by omega, x4, e4⟩⟩ (fun k hk => ?_)
          rw [mAd_Bg k b hk, if_pos rfl]
        · refine (hM.2.2.2 b (by omega)).cong (fun k hk => ?_)
          rw [mAd_Bg k b hk, if_neg q]
      · funext z; rw [wu_ne ho, mAd_o ho]
    · cases h
  · split at h
    · rename_i z116
      split at h
      · rename_i zb
        cases h
        obtain ⟨d0, x0, e0⟩ := hv.2 (Or.inl z116)
        rw [e0] at zb ⊢
        rw [nI_clamp (by omega)]
        have hb0 : d0 < cN := (nI_ltI (by omega) (by omega)).mp zb.2
        refine ⟨⟨cN, hc9, ?_, ?_, fun b hb => ?_⟩, fun o ho => ?_⟩
        · rw [wu_nj (by omega)]; exact h0
        · rw [wu_nj (by omega)]; exact hz
        · by_cases q : b = d0
          · subst q
            have hg := hM.2.2.2 b hb
            obtain ⟨t, ht, et⟩ := hg.2.2.1
            refine ⟨?_, ?_, ?_, ?_, ?_⟩
            · rw [mB_tn (by decide), if_neg (by omega)]; exact hg.1
            · rw [mB_tn (by decide), if_neg (by omega)]; exact hg.2.1
            · rw [mB_tn (by decide), if_pos (by omega)]
              refine ⟨1 - t, by omega, ?_⟩
              rw [et, show (1 : Int32) = nI 1 from rfl, nI_subN ht]
            · rw [mB_tn (by decide), if_neg (by omega)]; exact hg.2.2.2.1
            · rw [mB_tn (by decide), if_neg (by omega)]; exact hg.2.2.2.2
          · refine (hM.2.2.2 b hb).cong (fun k hk => ?_)
            rw [mB_tn hk, if_neg (by omega)]
        · funext z; rw [wu_ne ho]
      · cases h
    · split at h
      · rename_i z119
        cases h
        refine ⟨⟨cN, hc9, ?_, ?_, fun b hb => ?_⟩, fun o ho => ?_⟩
        · rw [wu_nj (by decide)]; exact h0
        · rw [wu_eq]; exact hv.2 (Or.inr z119)
        · rw [mB_lo (by decide)]; exact hM.2.2.2 b hb
        · funext z; rw [wu_ne ho]
      · split at h
        · cases h
        · cases h
          refine ⟨⟨cN - 1, by omega, wu_eq, ?_, fun b hb => ?_⟩, fun o ho => ?_⟩
          · rw [wu_nj (by decide)]; exact hz
          · rw [mB_lo (by decide)]; exact hM.2.2.2 b (by omega)
          · funext z; rw [wu_ne ho]
theorem mtl_58 {w x : ww} (h : w 58 = x 58) (cN : Nat) (c : Int32) (vs : Nat → Int32) : (mtl w cN c vs).map (fun u => u 58) = (mtl x cN c vs).map (fun u => u 58) := by
  have hB : mB w = mB x := by funext k b; unfold mB; rw [h]
  unfold mtl
  by_cases z98 : c = 98
  · rw [if_pos z98, if_pos z98]
    by_cases zb : vs 0 < 8 ∧ vs 2 < 2 ∧ 0 < vs 3 ∧ 0 < vs 4 ∧ cN < 9
    · rw [if_pos zb, if_pos zb]
      simp only [Option.map_some, mAd, wu_upd, h]
    · rw [if_neg zb, if_neg zb]
  · rw [if_neg z98, if_neg z98]
    by_cases z116 : c = 116
    · rw [if_pos z116, if_pos z116]
      by_cases zb : 0 ≤ vs 0 ∧ vs 0 < nI cN
      · rw [if_pos zb, if_pos zb]
        simp only [Option.map_some, wu_upd, h, hB]
      · rw [if_neg zb, if_neg zb]
    · rw [if_neg z116, if_neg z116]
      by_cases z119 : c = 119
      · rw [if_pos z119, if_pos z119]
        simp only [Option.map_some, wu_upd, h]
      · rw [if_neg z119, if_neg z119]
        by_cases z0 : cN = 0
        · rw [if_pos z0, if_pos z0]
        · rw [if_neg z0, if_neg z0]
          simp only [Option.map_some, wu_upd, h]
