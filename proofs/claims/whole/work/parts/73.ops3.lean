/-! Calls that change: comes, image, restore, keep, row, put. -/
theorem mrK_of {w u : ww} {d : Int32} (h : u 61 = w 61) : mrK u d = mrK w d := by unfold mrK; rw [h]
theorem mrR_of {w u : ww} {d s : Int32} (h : u 61 = w 61) (h2 : u 62 = w 62) : mrR u d s = mrR w d s := by unfold mrR; rw [h, h2]
theorem Inv.shelf {w u : ww} {dn : Nat} (hI : Inv w) (hdn : dn < 8) (h : ∀ p, Ky p → p ≠ 41 + 2 * dn → p ≠ 41 + 2 * dn + 1 → ¬ (61 ≤ p ∧ p ≤ 66) → u p = w p) (h9 : u 57 9 = w 57 9)
    (hx : ∀ d, d < 8 → d ≠ dn → u 61 d = w 61 d ∧ u 62 d = w 62 d ∧ u 63 d = w 63 d ∧ u 65 d = w 65 d ∧ u 66 d = w 66 d ∧ ∀ j, j < 100 → u 64 (100 * d + j) = w 64 (100 * d + j)) (hd : ShR u dn) (hz : ∃ n, n ≤ 100 ∧ u 63 dn = nI n) : Inv u := by
  obtain ⟨⟨c, hR⟩, ⟨i1, i2⟩, i3, i4⟩ := hI
  have hk : ∀ p, (p = 0 ∨ (10 ≤ p ∧ p ≤ 15) ∨ (24 ≤ p ∧ p ≤ 29) ∨ p = 58 ∨ p = 59) → u p = w p := fun p hp => h p (by unfold Ky; omega) (by omega) (by omega) (by omega)
  refine ⟨⟨c, hR.tr (fun p h1 h2 => hk p (by omega)) (fun k _ => by rw [hk 58 (by omega)])⟩, ⟨by rw [hk 0 (by omega), h9]; exact i1, fun q => ?_⟩, fun d hd8 => ?_, fun d hd8 => ?_⟩
  · rw [hk 0 (by omega)] at q
    obtain ⟨c2, h2⟩ := i2 q
    exact ⟨c2, h2.tr (fun p h1 h2 => hk p (by omega)) (fun k _ => by show u 59 k = w 59 k; rw [hk 59 (by omega)])⟩
  · by_cases e : d = dn
    · rw [e]; exact hd
    · obtain ⟨x1, x2, x3, x4, x5, x6⟩ := hx d hd8 e
      have hs := i3 d hd8
      unfold ShR at *
      rw [h (41 + 2 * d) (by unfold Ky; omega) (by omega) (by omega) (by omega), h (41 + 2 * d + 1) (by unfold Ky; omega) (by omega) (by omega) (by omega), x1, x2, x3, x4, x5]
      refine ⟨hs.1, ?_⟩
      rcases hs.2 with y | y | y
      · exact Or.inl y
      · exact Or.inr (Or.inl y)
      · exact Or.inr (Or.inr ⟨y.1, y.2.1, y.2.2.1, fun j hj => by rw [x6 j hj]; exact y.2.2.2 j hj⟩)
  · by_cases e : d = dn
    · rw [e]; exact hz
    · rw [(hx d hd8 e).2.2.1]; exact i4 d hd8
theorem o_comes {w : ww} {Q : Option Value → ww → Prop} {d s e t : Int32} (hI : Inv w) (hQ : ∀ rz w1, Pr mX12_comes 4 [.ref 57, .int d, .int s, .int e, .int t] rz w1 → Q (some (.int rz)) w1) : Ct mX11_comes 5 [.ref 0, .int d, .int s, .int e, .int t] w Q := by
  obtain ⟨c, hR⟩ := hI.1
  have h8 : w 10 8 = w 58 1 := hR.2.2.1
  refine c_X11_comes hR.now (fun r hr => hQ _ w (fun Q2 h2 => ?_)) (fun u hu => hQ _ u (fun Q2 h2 => ?_))
  · unfold cmO at hr
    by_cases hc : fIs d 0 7 = true ∧ fIs s 1 99 = true ∧ fIs e 1 99 = true ∧ fIs t 0 1 = true
    · rw [if_pos hc, hI.rK] at hr
      by_cases h0 : mrK w d = 0
      · rw [if_pos h0] at hr
        unfold hAdd at hr
        rw [hR.2.1] at hr
        by_cases h9 : (9 : Int32) ≤ nI c
        · rw [if_pos h9] at hr
          cases hr
          rw [show (9 : Int32) = nI 9 from rfl, nI_leI (by decide) (by have := hR.1.1; omega)] at h9
          exact c_X12_comes hR.1.mow (fun q => absurd hc.2 q) (fun _ q => absurd h0 q) (fun _ _ _ => h2 w hI) (fun _ _ q => by omega)
        · rw [if_neg h9] at hr; cases hr
      · rw [if_neg h0] at hr
        cases hr
        exact c_X12_comes hR.1.mow (fun q => absurd hc.2 q) (fun _ _ => h2 w hI) (fun _ q => absurd q h0) (fun _ q => absurd q h0)
    · rw [if_neg hc] at hr
      cases hr
      refine c_X12_comes hR.1.mow (fun q => h2 w hI) (fun q _ => ?_) (fun q q2 => absurd ⟨(mrK_0 q2).1, q⟩ hc) (fun q q2 => absurd ⟨(mrK_0 q2).1, q⟩ hc)
      have hd : fIs d 0 7 = false := Bool.eq_false_iff.mpr (fun z => hc ⟨z, q⟩)
      have e1 : mrK w d = -1 := by unfold mrK; rw [if_pos hd]
      rw [e1]; exact h2 w hI
  · unfold cmO at hu
    by_cases hc : fIs d 0 7 = true ∧ fIs s 1 99 = true ∧ fIs e 1 99 = true ∧ fIs t 0 1 = true
    · rw [if_pos hc, hI.rK] at hu
      by_cases h0 : mrK w d = 0
      · rw [if_pos h0] at hu
        unfold hAdd at hu
        rw [hR.2.1] at hu
        by_cases h9 : (9 : Int32) ≤ nI c
        · rw [if_pos h9] at hu; cases hu
        · rw [if_neg h9] at hu
          have hc9 := hR.1.1
          rw [show (9 : Int32) = nI 9 from rfl, nI_leI (by decide) (by omega)] at h9
          obtain ⟨dn, hd, rfl, h4⟩ := rfS_2 (hI.rK.trans h0)
          have hS := hI.2.2.1 dn hd
          rw [hS.1] at h4
          rcases hS.2 with x | x | x
          · rw [h4] at x; exact absurd x (by decide)
          · obtain ⟨_, y1, y2, ⟨kk, k1, k2⟩, ff, f1, f2⟩ := x
            rw [fSh_n hd, y1, y2] at hu
            cases hu
            obtain ⟨sn, s1, s2, rfl⟩ := fIs_99 hc.2.1
            obtain ⟨en, e1, e2, rfl⟩ := fIs_99 hc.2.2.1
            obtain ⟨tn, t1, rfl⟩ := fIs_1 hc.2.2.2
            have off : ∀ p, (p < 10 ∨ 15 < p) → hPl w 10 (w 65 dn) (w 66 dn) (nI tn) (nI sn) (nI en) p = w p := fun p hp => by
              funext z
              unfold hPl
              rw [wu_ne (by omega), wu_ne (by omega), wu_ne (by omega), wu_ne (by omega), wu_ne (by omega), wu_ne (by omega)]
            have h7 : hPl w 10 (w 65 dn) (w 66 dn) (nI tn) (nI sn) (nI en) 10 7 = nI (c + 1) := by unfold hPl; rw [wu_eq, hR.2.1, nI_1]
            have h108 : hPl w 10 (w 65 dn) (w 66 dn) (nI tn) (nI sn) (nI en) 10 8 = w 10 8 := by
              unfold hPl
              rw [wu_nj (by decide), wu_ne (by decide), wu_ne (by decide), wu_ne (by decide), wu_ne (by decide), wu_ne (by decide)]
            have hb := hB_pl (k := w 65 dn) (f := w 66 dn) (t := nI tn) (s := nI sn) (d := nI en) hc9 hR.2.1
            rw [h7] at h2
            generalize hPl w 10 (w 65 dn) (w 66 dn) (nI tn) (nI sn) (nI en) = u at off h7 h108 hb h2 ⊢
            have u58 := off 58 (by omega)
            have hMB : mB u = mB w := by funext k b; unfold mB; rw [u58]
            refine c_X12_comes (c := c) (by unfold Mow; rw [hMB, u58]; exact hR.1.mow) (fun q => absurd hc.2 q) (fun _ q => absurd ((mrK_of (off 61 (by omega))).trans h0) q) (fun _ _ q => by omega) (fun _ _ _ => ?_)
            rw [nI_clamp (by omega), off 65 (by omega), off 66 (by omega)]
            refine zqe (h2 _ (hI.bh (c := c + 1) ⟨⟨by omega, wu_eq, ?_, fun b hb2 => ?_⟩, ?_, ?_, fun k b hk hb2 => ?_⟩ (fun p hp => ?_) ?_)) ?_
            · rw [wu_nj (by decide), mAd_1, u58]; exact hR.1.2.2.1
            · rw [mB_lo (by decide)]
              by_cases q : b = c
              · subst q
                refine Rgb.cong (B := fun k _ => v5 (w 65 dn) (w 66 dn) (nI tn) (nI sn) (nI en) k) (b := 0) ⟨⟨kk, k1, k2⟩, ⟨ff, f1, f2⟩, ⟨tn, t1, rfl⟩, ⟨sn, s1, s2, rfl⟩, ⟨en, e1, e2, rfl⟩⟩ (fun k hk => ?_)
                rw [mAd_Bg k b hk, if_pos rfl]
              · refine (hR.1.2.2.2 b (by omega)).cong (fun k hk => ?_)
                rw [mAd_Bg k b hk, if_neg q, hMB]
            · rw [wu_ne (by decide), mAd_o (by decide)]; exact h7
            · rw [wu_ne (by decide), mAd_o (by decide), wu_nj (by decide), mAd_1, u58, h108]; exact hR.2.2.1
            · rw [mB_lo (by decide), mAd_Bg k b hk, hMB]
              have e9 : hB (wu (mAd u c (w 65 dn) (w 66 dn) (nI tn) (nI sn) (nI en)) 58 0 (nI (c + 1))) 10 k b = hB u 10 k b := by
                unfold hB; rw [wu_ne (by omega), mAd_o (by omega)]
              rw [e9, hb k b hk]
              by_cases q : b = c
              · rw [if_pos q, if_pos q]
              · rw [if_neg q, if_neg q]; exact hR.2.2.2 k b hk (by omega)
            · unfold Kb at hp
              funext z
              rw [wu_ne (by omega), mAd_o (by omega), off p (by omega)]
            · rw [wu_ne (by decide), mAd_o (by decide), off 57 (by omega)]
            · rw [show (1 : Int32) = nI 1 from rfl, nI_subN (by omega), Nat.add_sub_cancel]
          · rw [h4] at x; exact absurd x.1 (by decide)
      · rw [if_neg h0] at hu; cases hu
    · rw [if_neg hc] at hu; cases hu
theorem o_image {w : ww} {Q : Option Value → ww → Prop} (hI : Inv w) (hQ : ∀ rz w1, Pr mX12_image 2 [.ref 57] rz w1 → Q (some (.int rz)) w1) : Ct mX11_image 2 [.ref 0] w Q := by
  obtain ⟨c, hR⟩ := hI.1
  have h8 : w 10 8 = w 58 1 := hR.2.2.1
  refine c_X11_image (fun u hu => hQ _ _ (fun Q2 h2 => ?_))
  obtain ⟨b1, b2, b3, b4⟩ := hu
  refine c_X12_image (fun u2 k1 k2 => ?_)
  have e : ∀ p, (p < 24 ∨ 29 < p) → p ≠ 0 → p ≠ 59 → u2 p = w p := fun p hp h0 h59 => by
    rw [k1 p h59, ← b1 p (by omega)]; funext z; rw [wu_ne h0]
  have e24 : ∀ p, 24 ≤ p → p ≤ 29 → u2 p = u p := fun p q1 q2 => by
    rw [k1 p (by omega)]; funext z; rw [wu_ne (by omega)]
  have r59 : ∀ k, k < 52 → u2 59 k = w 58 k := fun k hk => by
    rw [k2 k hk, wu_ne (by decide), b1 58 (by omega)]
  refine zqe (h2 _ ⟨⟨c, hR.tr (fun p q1 q2 => ?_) (fun k hk => ?_)⟩, ⟨?_, fun _ => ⟨c, ?_⟩⟩, fun d hd => ?_, fun d hd => ?_⟩) ?_
  · funext z; rw [wu_ne (by omega), e p (by omega) (by omega) (by omega)]
  · rw [wu_ne (by decide), e 58 (by omega) (by decide) (by decide)]
  · rw [wu_ne (by decide), k1 0 (by decide), wu_eq, wu_eq]
  · have hM : Mrw (fun _ => wu u2 57 9 1 59) c := hR.1.of52 (fun k hk => by show wu u2 57 9 1 59 k = _; rw [wu_ne (by decide), r59 k hk])
    refine ⟨hM, ?_, ?_, fun k b hk hb => ?_⟩
    · rw [wu_ne (by decide), e24 24 (by omega) (by omega), b2]; exact hR.2.1
    · show wu u2 57 9 1 24 8 = wu u2 57 9 1 59 1
      rw [wu_ne (by decide), wu_ne (by decide), e24 24 (by omega) (by omega), b3, r59 1 (by decide)]; exact hR.2.2.1
    · have hc := hR.1.1
      have q1 := b4 k b hk (by omega)
      have q2 := hR.2.2.2 k b hk hb
      unfold hB mB at *
      show wu u2 57 9 1 (24 + 1 + k) b = wu u2 57 9 1 59 (2 + 5 * b + k)
      rw [wu_ne (by omega), wu_ne (by decide), e24 _ (by omega) (by omega), q1, r59 _ (by omega), q2]
  · exact (hI.2.2.1 d hd).of (fun p hp => by funext z; rw [wu_ne (by omega), e p (by omega) (by omega) (by omega)])
  · rw [wu_ne (by decide), e 63 (by omega) (by decide) (by decide)]; exact hI.2.2.2 d hd
  · rw [wu_ne (by decide), b1 58 (by omega), hR.1.2.1, hR.2.1]
theorem o_restore {w : ww} {Q : Option Value → ww → Prop} (hI : Inv w) (hQ : ∀ rz w1, Pr mX12_restore 2 [.ref 57] rz w1 → Q (some (.int rz)) w1) : Ct mX11_restore 2 [.ref 0] w Q := by
  obtain ⟨c, hR⟩ := hI.1
  have h8 : w 10 8 = w 58 1 := hR.2.2.1
  refine c_X11_restore (fun h => hQ _ w (fun Q2 h2 => c_X12_restore (fun _ => h2 w hI) (fun q => absurd (by rw [← hI.2.1.1]; exact h) q))) (fun h u hu => hQ _ u (fun Q2 h2 => ?_))
  obtain ⟨b1, b2, b3, b4⟩ := hu
  have e9 : u 57 9 = w 57 9 := by rw [b1 57 (by omega)]
  obtain ⟨c2, hR2⟩ := hI.2.1.2 h
  refine c_X12_restore (fun q => absurd (by rw [hI.2.1.1, ← e9]; exact q) h) (fun _ u2 k1 k2 => ?_)
  have r58 : ∀ k, k < 52 → u2 58 k = w 59 k := fun k hk => by rw [k2 k hk, b1 59 (by omega)]
  refine zqe (h2 _ (hI.bh (c := c2) ⟨?_, ?_, ?_, fun k b hk hb => ?_⟩ (fun p hp => ?_) ?_)) ?_
  · exact hR2.1.of52 (fun k hk => r58 k hk)
  · rw [k1 10 (by decide), b2]; exact hR2.2.1
  · rw [k1 10 (by decide), b3, r58 1 (by decide)]; exact hR2.2.2.1
  · have hc := hR2.1.1
    have q1 := b4 k b hk (by omega)
    have q2 := hR2.2.2.2 k b hk hb
    unfold hB mB at *
    rw [k1 _ (by omega), q1, r58 _ (by omega), q2]
  · unfold Kb at hp
    rw [k1 p (by omega), b1 p (by omega)]
  · rw [k1 57 (by decide), e9]
  · rw [r58 0 (by decide), hR2.2.1]; exact hR2.1.2.1.symm
theorem keE_iff {d m k f : Int32} : keE d m k f = true ↔ mkP d m k f := by
  unfold keE mkP
  simp only [Bool.and_eq_true, Bool.or_eq_true, decide_eq_true_eq]
  constructor
  · rintro ⟨⟨h1, h2⟩, h3⟩
    refine ⟨h1, h2, fun q => h3.elim (fun z => ?_) id⟩
    rw [q] at z; exact absurd z (by decide)
  · rintro ⟨h1, h2, h3⟩
    refine ⟨⟨h1, h2⟩, ?_⟩
    obtain ⟨n, hn, rfl⟩ := fIs_1 h2
    rcases (by omega : n = 0 ∨ n = 1) with rfl | rfl
    · exact Or.inl rfl
    · exact Or.inr (h3 rfl)
theorem fIs_7 {v : Int32} (h : fIs v 0 7 = true) : ∃ n, n ≤ 7 ∧ v = nI n := by
  obtain ⟨n, hn, e⟩ := fIs7 h
  exact ⟨n, by omega, e⟩
theorem o_keep {w : ww} {Q : Option Value → ww → Prop} {d m k f : Int32} (hI : Inv w) (hQ : ∀ rz w1, Pr mX12_keep 3 [.ref 57, .int d, .int m, .int k, .int f] rz w1 → Q (some (.int rz)) w1) : Ct mX11_keep 3 [.ref 0, .int d, .int m, .int k, .int f] w Q := by
  refine c_X11_keep (fun h => hQ _ w (fun Q2 h2 => c_X12_keep (fun _ => h2 w hI) (fun q => by rw [keE_iff.mpr q] at h; cases h))) (fun h h0 => hQ _ _ (fun Q2 h2 => ?_)) (fun h h0 => hQ _ _ (fun Q2 h2 => ?_))
  · have hP := keE_iff.mp h
    refine c_X12_keep (fun q => absurd hP q) (fun _ => ?_)
    obtain ⟨dn, hd, rfl⟩ := fIs7 hP.1
    rw [fSh_n hd, nI_clamp (by omega)]
    have hx : ∀ (u : ww), u = wu (wu (wu (wu w (41 + 2 * dn) 1 0) 61 dn m) 65 dn k) 66 dn f → (∀ p, p ≠ 41 + 2 * dn → wu w (41 + 2 * dn) 1 0 p = w p) → ShR u dn → Inv u := fun u hu hU hS => by
      subst hu
      refine hI.shelf hd (fun p hp h1 h2 h3 => ?_) ?_ (fun d hd8 hne => ?_) hS ?_
      · funext z; rw [wu_ne (by omega), wu_ne (by omega), wu_ne (by omega), hU p h1]
      · rw [wu_ne (by decide), wu_ne (by decide), wu_ne (by decide), hU 57 (by omega)]
      · refine ⟨?_, ?_, ?_, ?_, ?_, fun j hj => ?_⟩
        · rw [wu_ne (by decide), wu_ne (by decide), wu_nj hne, hU 61 (by omega)]
        · rw [wu_ne (by decide), wu_ne (by decide), wu_ne (by decide), hU 62 (by omega)]
        · rw [wu_ne (by decide), wu_ne (by decide), wu_ne (by decide), hU 63 (by omega)]
        · rw [wu_ne (by decide), wu_nj hne, wu_ne (by decide), hU 65 (by omega)]
        · rw [wu_nj hne, wu_ne (by decide), wu_ne (by decide), hU 66 (by omega)]
        · rw [wu_ne (by decide), wu_ne (by decide), wu_ne (by decide), hU 64 (by omega)]
      · rw [wu_ne (by decide), wu_ne (by decide), wu_ne (by decide), hU 63 (by omega)]; exact hI.2.2.2 dn hd
    refine h2 _ (hx _ rfl (fun p hp => by funext z; exact wu_ne hp) ⟨?_, Or.inl ?_⟩)
    · rw [wu_ne (by omega), wu_ne (by omega), wu_ne (by omega), wu_eq, wu_ne (by decide), wu_ne (by decide), wu_eq, h0]
    · rw [wu_ne (by decide), wu_ne (by decide), wu_eq, h0]
  · have hP := keE_iff.mp h
    refine c_X12_keep (fun q => absurd hP q) (fun _ => ?_)
    obtain ⟨dn, hd, rfl⟩ := fIs7 hP.1
    rw [fSh_n hd, nI_clamp (by omega)]
    have hm : m = 1 := by
      obtain ⟨n, hn, rfl⟩ := fIs_1 hP.2.1
      rcases (by omega : n = 0 ∨ n = 1) with rfl | rfl
      · exact absurd rfl h0
      · rfl
    obtain ⟨kr, fr⟩ := hP.2.2 hm
    have hx : ∀ (u : ww), u = wu (wu (wu (wu (wu (wu w (41 + 2 * dn) 1 1) (41 + 2 * dn) 2 k) (41 + 2 * dn) 3 f) 61 dn m) 65 dn k) 66 dn f → (∀ p, p ≠ 41 + 2 * dn → wu (wu (wu w (41 + 2 * dn) 1 1) (41 + 2 * dn) 2 k) (41 + 2 * dn) 3 f p = w p) → ShR u dn → Inv u := fun u hu hU hS => by
      subst hu
      refine hI.shelf hd (fun p hp h1 h2 h3 => ?_) ?_ (fun d hd8 hne => ?_) hS ?_
      · funext z; rw [wu_ne (by omega), wu_ne (by omega), wu_ne (by omega), hU p h1]
      · rw [wu_ne (by decide), wu_ne (by decide), wu_ne (by decide), hU 57 (by omega)]
      · refine ⟨?_, ?_, ?_, ?_, ?_, fun j hj => ?_⟩
        · rw [wu_ne (by decide), wu_ne (by decide), wu_nj hne, hU 61 (by omega)]
        · rw [wu_ne (by decide), wu_ne (by decide), wu_ne (by decide), hU 62 (by omega)]
        · rw [wu_ne (by decide), wu_ne (by decide), wu_ne (by decide), hU 63 (by omega)]
        · rw [wu_ne (by decide), wu_nj hne, wu_ne (by decide), hU 65 (by omega)]
        · rw [wu_nj hne, wu_ne (by decide), wu_ne (by decide), hU 66 (by omega)]
        · rw [wu_ne (by decide), wu_ne (by decide), wu_ne (by decide), hU 64 (by omega)]
      · rw [wu_ne (by decide), wu_ne (by decide), wu_ne (by decide), hU 63 (by omega)]; exact hI.2.2.2 dn hd
    refine h2 _ (hx _ rfl (fun p hp => by funext z; rw [wu_ne hp, wu_ne hp, wu_ne hp]) ⟨?_, Or.inr (Or.inl ⟨?_, ?_, ?_, ?_, ?_⟩)⟩)
    · rw [wu_ne (by omega), wu_ne (by omega), wu_ne (by omega), wu_nj (by decide), wu_nj (by decide), wu_eq, wu_ne (by decide), wu_ne (by decide), wu_eq, hm]
    · rw [wu_ne (by decide), wu_ne (by decide), wu_eq, hm]
    · rw [wu_ne (by omega), wu_ne (by omega), wu_ne (by omega), wu_nj (by decide), wu_eq, wu_ne (by decide), wu_eq]
    · rw [wu_ne (by omega), wu_ne (by omega), wu_ne (by omega), wu_eq, wu_eq]
    · rw [wu_ne (by decide), wu_eq]; exact fIs_7 kr
    · rw [wu_eq]; exact fIs_9 fr
theorem o_row {w : ww} {Q : Option Value → ww → Prop} {d so n : Int32} (hI : Inv w) (hQ : ∀ rz w1, Pr mX12_row 3 [.ref 57, .int d, .int so, .int n] rz w1 → Q (some (.int rz)) w1) : Ct mX11_row 3 [.ref 0, .int d, .int so, .int n] w Q := by
  refine c_X11_row (fun h => hQ _ w (fun Q2 h2 => c_X12_row (fun _ => h2 w hI) (fun q _ => absurd q h) (fun q _ _ _ _ _ _ _ => absurd q h))) (fun h h0 => hQ _ w (fun Q2 h2 => c_X12_row (fun q => absurd h q) (fun _ _ => h2 w hI) (fun _ q _ _ _ _ _ _ => absurd h0 q))) (fun h h0 u k1 k2 k3 k4 k5 => hQ _ u (fun Q2 h2 => ?_))
  refine c_X12_row (fun q => absurd h q) (fun _ q => absurd q h0) (fun _ _ dn hd e u2 m1 m2 => ?_)
  subst e
  rw [fSh_n hd] at k1 k2 k3 k4 k5
  obtain ⟨nn, hn, rfl⟩ := nI_of (x := n) h0
  have hn1 : nn ≤ 100 := by
    have := h.2.2
    rw [show (100 : Int32) = nI 100 from rfl, nI_leI hn (by decide)] at this
    exact this
  have e : ∀ p, p ≠ 61 → p ≠ 62 → p ≠ 63 → p ≠ 64 → u2 p = u p := fun p h1 h2 h3 h4 => by
    rw [m1 p h4]; unfold mroW; funext z; rw [wu_ne h3, wu_ne h2, wu_ne h1]
  have eu : ∀ p, (61 ≤ p ∧ p ≤ 66) → u p = w p := fun p hp => k1 p (by omega) (by omega)
  refine h2 _ (hI.shelf hd (fun p hp q1 q2 q3 => ?_) ?_ (fun d hd8 hne => ⟨?_, ?_, ?_, ?_, ?_, fun j hj => ?_⟩) ⟨?_, Or.inr (Or.inr ⟨?_, ?_, ?_, fun j hj => ?_⟩)⟩ ⟨nn, hn1, ?_⟩)
  · rw [e p (by omega) (by omega) (by omega) (by omega), k1 p q1 q2]
  · rw [e 57 (by decide) (by decide) (by decide) (by decide), k1 57 (by omega) (by omega)]
  · rw [m1 61 (by decide)]; unfold mroW; rw [wu_ne (by decide), wu_ne (by decide), wu_nj hne, eu 61 (by omega)]
  · rw [m1 62 (by decide)]; unfold mroW; rw [wu_ne (by decide), wu_nj hne, wu_ne (by decide), eu 62 (by omega)]
  · rw [m1 63 (by decide)]; unfold mroW; rw [wu_nj hne, wu_ne (by decide), wu_ne (by decide), eu 63 (by omega)]
  · rw [e 65 (by decide) (by decide) (by decide) (by decide), eu 65 (by omega)]
  · rw [e 66 (by decide) (by decide) (by decide) (by decide), eu 66 (by omega)]
  · rw [m2, if_neg (by omega), eu 64 (by omega)]
  · rw [e (41 + 2 * dn) (by omega) (by omega) (by omega) (by omega), k2, m1 61 (by decide)]; unfold mroW; rw [wu_ne (by decide), wu_ne (by decide), wu_eq]
  · rw [m1 61 (by decide)]; unfold mroW; rw [wu_ne (by decide), wu_ne (by decide), wu_eq]
  · rw [e (41 + 2 * dn) (by omega) (by omega) (by omega) (by omega), k3, m1 62 (by decide)]; unfold mroW; rw [wu_ne (by decide), wu_eq]
  · rw [e (41 + 2 * dn) (by omega) (by omega) (by omega) (by omega), k4, m1 63 (by decide)]; unfold mroW; rw [wu_eq]
  · rw [e (41 + 2 * dn + 1) (by omega) (by omega) (by omega) (by omega), k5 j hj, m2, if_pos (by omega)]
  · rw [m1 63 (by decide)]; unfold mroW; rw [wu_eq]
theorem isPc2 {b : Int32} {c : Nat} (hc : c ≤ 100) : fIs b 0 (nI c - 1) = true ↔ 0 ≤ b ∧ b < nI c := by
  obtain ⟨h1, h2⟩ := c1b c (by omega)
  simp only [fIs, Bool.and_eq_true, decide_eq_true_eq, Int32.le_iff_toInt_le, Int32.lt_iff_toInt_lt, h1, h2]
  omega
theorem Inv.pE {w : ww} {d i : Int32} (hI : Inv w) : puE w d i = mpE w d i := by
  unfold puE mpE
  rw [hI.rS]
  by_cases h0 : mrR w d (-1) = 0
  · rw [if_pos h0, if_pos h0]
    obtain ⟨dn, hd, rfl, h4⟩ := rfS_2 (hI.rS.trans h0)
    obtain ⟨n, n1, n2, n3, _⟩ := hI.row hd h4
    rw [fSh_n hd, n2, nI_clamp (by omega), n3]
    by_cases q : 0 ≤ i ∧ i < nI n
    · rw [if_pos q, if_pos ((isPc2 n1).mpr q)]
    · rw [if_neg q, if_neg (fun z => q ((isPc2 n1).mp z))]
  · rw [if_neg h0, if_neg h0]
theorem o_put {w : ww} {Q : Option Value → ww → Prop} {d i v : Int32} (hI : Inv w) (hQ : ∀ rz w1, Pr mX12_put 4 [.ref 57, .int d, .int i, .int v] rz w1 → Q (some (.int rz)) w1) : Ct mX11_put 5 [.ref 0, .int d, .int i, .int v] w Q := by
  refine c_X11_put hI.sok (fun h => hQ _ w (fun Q2 h2 => c_X12_put hI.2.2.2 (fun _ => zqe (h2 w hI) hI.pE) (fun _ _ _ _ _ _ q => absurd (hI.pE.trans q) h))) (fun h => hQ _ _ (fun Q2 h2 => ?_))
  have h0 : rfS w d 2 = 0 := by
    unfold puE at h
    by_cases q : rfS w d 2 = 0
    · exact q
    · rw [if_neg q] at h; exact h
  obtain ⟨dn, hd, rfl, h4⟩ := rfS_2 h0
  obtain ⟨n, n1, n2, n3, n4, n5⟩ := hI.row hd h4
  rw [fSh_n hd, n4]
  have off : ∀ p, p ≠ 41 + 2 * dn + 1 → wu w (41 + 2 * dn + 1) i.toNatClampNeg (sNar (w 62 dn) v) p = w p := fun p hp => by funext z; exact wu_ne hp
  have hZ2 : Msz (wu w (41 + 2 * dn + 1) i.toNatClampNeg (sNar (w 62 dn) v)) := fun d hd => by rw [off 63 (by omega)]; exact hI.2.2.2 d hd
  have hE2 : mpE (wu w (41 + 2 * dn + 1) i.toNatClampNeg (sNar (w 62 dn) v)) (nI dn) i = 0 := by
    have := hI.pE.symm.trans h
    unfold mpE mrR at *
    rw [off 61 (by omega), off 62 (by omega), off 63 (by omega)]; exact this
  refine c_X12_put hZ2 (fun q => absurd hE2 q) (fun dm m hdm e hm e2 _ => ?_)
  obtain rfl : dn = dm := (nI_eqI (by omega) (by omega)).mp e
  subst e2
  rw [nI_clamp (by omega)] at off ⊢
  rw [off 62 (by omega)]
  have hS := hI.2.2.1 dn hd
  have h61 : w 61 dn = 2 := by rw [← hS.1]; exact h4
  refine h2 _ (hI.shelf hd (fun p hp q1 q2 q3 => ?_) ?_ (fun d hd8 hne => ⟨?_, ?_, ?_, ?_, ?_, fun j hj => ?_⟩) ⟨?_, Or.inr (Or.inr ⟨?_, ?_, ?_, fun j hj => ?_⟩)⟩ ⟨n, n1, ?_⟩)
  · funext z; rw [wu_ne (by omega), off p q2]
  · rw [wu_ne (by decide), off 57 (by omega)]
  · rw [wu_ne (by decide), off 61 (by omega)]
  · rw [wu_ne (by decide), off 62 (by omega)]
  · rw [wu_ne (by decide), off 63 (by omega)]
  · rw [wu_ne (by decide), off 65 (by omega)]
  · rw [wu_ne (by decide), off 66 (by omega)]
  · rw [wu_nj (by omega), off 64 (by omega)]
  · rw [wu_ne (by omega), off _ (by omega), wu_ne (by decide), off 61 (by omega)]; exact hS.1
  · rw [wu_ne (by decide), off 61 (by omega)]; exact h61
  · rw [wu_ne (by omega), off _ (by omega), wu_ne (by decide), off 62 (by omega)]; exact n4
  · rw [wu_ne (by omega), off _ (by omega), wu_ne (by decide), off 63 (by omega), n2, n3]
  · rw [wu_ne (by omega)]
    by_cases q : j = m
    · rw [q, wu_eq, wu_eq]
    · rw [wu_nj q, wu_nj (by omega), off 64 (by omega)]; exact n5 j hj
  · rw [wu_ne (by decide), off 63 (by omega)]; exact n3
