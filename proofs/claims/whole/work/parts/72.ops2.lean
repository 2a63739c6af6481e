/-! Calls that change: bowl, warm, turn, comes, image, restore, judge, out, price. -/
theorem fSh_n {dn : Nat} (h : dn < 8) : fSh (nI dn) = 41 + 2 * dn := by unfold fSh; rw [nI_clamp (by omega)]
theorem Inv.rS {w : ww} {d : Int32} (hI : Inv w) : rfS w d 2 = mrR w d (-1) := by
  unfold rfS mrR
  cases q : fIs d 0 7 with
  | false => rw [if_pos rfl, if_pos rfl]
  | true =>
    have nf : ¬ true = false := by decide
    rw [if_neg nf, if_neg nf]
    obtain ⟨dn, hd, rfl⟩ := fIs7 q
    rw [fSh_n hd, nI_clamp (by omega), (hI.2.2.1 dn hd).1]
    by_cases z : w 61 dn = 0
    · rw [if_pos z, if_pos z]
    · rw [if_neg z, if_neg z]
      by_cases z2 : w 61 dn = 2
      · rw [if_pos z2, if_neg (fun x => x.elim (fun x => x z2) (fun x => absurd x.1 (by decide)))]
      · rw [if_neg z2, if_pos (Or.inl z2)]
theorem Inv.rK {w : ww} {d : Int32} (hI : Inv w) : rfS w d 1 = mrK w d := by
  unfold rfS mrK
  cases q : fIs d 0 7 with
  | false => rw [if_pos rfl, if_pos rfl]
  | true =>
    have nf : ¬ true = false := by decide
    rw [if_neg nf, if_neg nf]
    obtain ⟨dn, hd, rfl⟩ := fIs7 q
    rw [fSh_n hd, nI_clamp (by omega), (hI.2.2.1 dn hd).1]
theorem Inv.rB {w : ww} {d : Int32} (hI : Inv w) : rfB w d = mrR w d 0 := by
  have h1 := hI.rS (d := d)
  unfold rfB
  rw [h1]
  unfold mrR
  cases q : fIs d 0 7 with
  | false => rw [if_pos rfl, if_pos rfl, if_neg (fun z => absurd z.1 (by decide))]
  | true =>
    have nf : ¬ true = false := by decide
    rw [if_neg nf, if_neg nf]
    obtain ⟨dn, hd, rfl⟩ := fIs7 q
    rw [fSh_n hd, nI_clamp (by omega)]
    by_cases z : w 61 dn = 0
    · rw [if_pos z, if_pos z, if_neg (fun z => absurd z.1 (by decide))]
    · rw [if_neg z, if_neg z]
      by_cases z2 : w 61 dn = 2
      · rw [if_neg (show ¬ (¬ w 61 dn = 2 ∨ ((0 : Int32) ≤ -1 ∧ ¬ w 62 dn = -1)) from fun x => x.elim (fun x => x z2) (fun x => absurd x.1 (by decide)))]
        have h3 : w (41 + 2 * dn) 4 = w 62 dn := by
          rcases (hI.2.2.1 dn hd).2 with x | x | x
          · exact absurd x z
          · rw [x.1] at z2; exact absurd z2 (by decide)
          · exact x.2.1
        rw [h3]
        by_cases z3 : w 62 dn = 0
        · rw [if_neg (fun x => x.2 z3), if_neg (fun x => x.elim (fun x => x z2) (fun x => x.2 z3))]
        · rw [if_pos ⟨rfl, z3⟩, if_pos (Or.inr ⟨by decide, z3⟩)]
      · rw [if_pos (show (¬ w 61 dn = 2 ∨ ((0 : Int32) ≤ -1 ∧ ¬ w 62 dn = -1)) from Or.inl z2), if_neg (fun x => absurd x.1 (by decide)), if_pos (Or.inl z2)]
/-- a row is held -/
theorem Inv.row {w : ww} {dn : Nat} (hI : Inv w) (hd : dn < 8) (h2 : w (41 + 2 * dn) 1 = 2) : ∃ n, n ≤ 100 ∧ w (41 + 2 * dn) 5 = nI n ∧ w 63 dn = nI n ∧ w (41 + 2 * dn) 4 = w 62 dn ∧ ∀ j, j < 100 → w (41 + 2 * dn + 1) j = fE w dn j := by
  obtain ⟨n, n1, n2⟩ := hI.2.2.2 dn hd
  have hS := hI.2.2.1 dn hd
  rw [hS.1] at h2
  rcases hS.2 with x | x | x
  · rw [h2] at x; exact absurd x (by decide)
  · rw [h2] at x; exact absurd x.1 (by decide)
  · exact ⟨n, n1, by rw [x.2.2.1]; exact n2, n2, x.2.1, x.2.2.2⟩
theorem rfS_2 {w : ww} {d k : Int32} (h : rfS w d k = 0) : ∃ dn, dn < 8 ∧ d = nI dn ∧ w (41 + 2 * dn) 1 = k := by
  obtain ⟨dn, hd, rfl⟩ := fIs7 (rfS_is h)
  refine ⟨dn, hd, rfl, ?_⟩
  unfold rfS at h
  rw [if_neg (by rw [rfS_is (w := w) (want := k) (by unfold rfS; exact h)]; decide), fSh_n hd] at h
  split at h
  · exact absurd h (by decide)
  · split at h
    · assumption
    · exact absurd h (by decide)
theorem Inv.sok {w : ww} {d : Int32} (hI : Inv w) : Sok w d := fun h => by
  obtain ⟨dn, hd, rfl, h1⟩ := rfS_2 h
  obtain ⟨n, n1, n2, _⟩ := hI.row hd h1
  exact ⟨n, n1, by rw [fSh_n hd]; exact n2⟩
theorem Inv.fm {w : ww} {c dn : Nat} (hI : Inv w) (hR : HRel w 10 w c) (hd : dn < 8) (h2 : w (41 + 2 * dn) 1 = 2) : fmW w (nI dn) = mfW w c dn := by
  obtain ⟨n, n1, n2, n3, _, n5⟩ := hI.row hd h2
  unfold fmW mfW
  rw [fSh_n hd, n2, n3, nI_clamp (by omega), hR.2.1, hR.2.2.1]
  exact fmF_cong hR.1.1 (fun a b ha hb => hR.rl.li ha hb _) n 0 0 (fun j hj => n5 j (by omega)) (fun q => absurd q (by decide))
theorem o_bowl {w : ww} {Q : Option Value → ww → Prop} {b k : Int32} (hI : Inv w) (hQ : ∀ rz w1, Pr mX12_bowl 5 [.ref 57, .int b, .int k] rz w1 → Q (some (.int rz)) w1) : Ct mX11_bowl 5 [.ref 0, .int b, .int k] w Q := by
  obtain ⟨c, hR⟩ := hI.1
  have h8 : w 10 8 = w 58 1 := hR.2.2.1
  refine c_X11_bowl hR.now (hQ _ w (fun Q2 h2 => ?_))
  refine c_X12_bowl hR.1.mow (fun h => ?_) (fun h => ?_)
  · refine zqe (h2 w hI) ?_
    rw [hR.2.1, bwR, if_pos h]
  · refine zqe (h2 w hI) ?_
    have hb := rg_lt hR.1.1 h
    have e : ∀ j, j < 5 → hB w 10 j b.toNatClampNeg = mB w j b.toNatClampNeg := fun j hj => hR.2.2.2 j _ hj hb
    rw [hR.2.1, bwR, if_neg (fun z => z h), mbR, h8]
    unfold fOut fIn fRi
    rw [e 0 (by decide), e 1 (by decide), e 2 (by decide), e 3 (by decide), e 4 (by decide)]
theorem o_judge {w : ww} {Q : Option Value → ww → Prop} {d : Int32} (hI : Inv w) (hQ : ∀ rz w1, Pr mX12_judge 8 [.ref 57, .int d] rz w1 → Q (some (.int rz)) w1) : Ct mX11_judge 7 [.ref 0, .int d] w Q := by
  obtain ⟨c, hR⟩ := hI.1
  have h8 : w 10 8 = w 58 1 := hR.2.2.1
  refine c_X11_judge hR.now hI.sok (hQ _ w (fun Q2 h2 => ?_))
  rw [hI.rS] at h2
  refine c_X12_judge hR.1.mow hI.2.2.2 (fun h => ?_) (fun dn hd e h h3 => ?_) (fun dn hd e h h3 => ?_)
  · rw [if_neg h] at h2; exact h2 w hI
  · subst e
    rw [if_pos h] at h2
    have hs : rfS w (nI dn) 2 = 0 := hI.rS.trans h
    obtain ⟨dm, hd2, e2, h4⟩ := rfS_2 hs
    obtain rfl : dn = dm := (nI_eqI (by omega) (by omega)).mp e2
    rw [hI.fm hR hd h4, if_pos h3] at h2
    exact h2 w hI
  · subst e
    rw [if_pos h] at h2
    have hs : rfS w (nI dn) 2 = 0 := hI.rS.trans h
    obtain ⟨dm, hd2, e2, h4⟩ := rfS_2 hs
    obtain rfl : dn = dm := (nI_eqI (by omega) (by omega)).mp e2
    rw [hI.fm hR hd h4, if_neg h3] at h2
    exact h2 w hI
theorem o_out {w : ww} {Q : Option Value → ww → Prop} {d v : Int32} (hI : Inv w) (hQ : ∀ rz w1, Pr mX12_out 9 [.ref 57, .int d, .int v] rz w1 → Q (some (.int rz)) w1) : Ct mX11_out 7 [.ref 0, .int d, .int v] w Q := by
  obtain ⟨c, hR⟩ := hI.1
  have h8 : w 10 8 = w 58 1 := hR.2.2.1
  refine c_X11_out hR.now hI.sok (hQ _ w (fun Q2 h2 => ?_))
  refine c_X12_out hR.1.mow hI.2.2.2 (zqe (h2 w hI) ?_)
  unfold otR moR
  by_cases hc : fIs d 0 7 = true ∧ fIs v 0 9 = true
  · rw [if_pos hc, if_pos hc, hI.rB]
    unfold mwO
    by_cases h0 : mrR w d 0 = 0
    · rw [if_pos h0, if_pos h0]
      have hs := rfB_0 (hI.rB.trans h0)
      obtain ⟨dn, hd, rfl, h4⟩ := rfS_2 hs
      obtain ⟨n, n1, n2, n3, _, n5⟩ := hI.row hd h4
      rw [fSh_n hd, hI.fm hR hd h4, nI_clamp (by omega), n2, n3, nI_clamp (by omega)]
      by_cases z : nI n = 0 ∨ 0 ≤ mfW w c dn
      · rw [if_pos z, if_pos z, if_neg (by decide)]
      · rw [if_neg z, if_neg z, if_pos rfl]
        have hr := fun j (hj : j < n) => by
          have h9 : ¬ 0 ≤ fmF (fE w dn) (nI c) (fun a b => fLi (mB w) a b (w 58 1)) n 0 0 := fun y => z (Or.inr (by unfold mfW; rw [n3, nI_clamp (by omega)]; exact y))
          exact fmF_ok n 0 0 (by omega) h9 j (Nat.zero_le _) (by omega)
        exact ouF_cong hR.1.1 (fun a b ha hb => hR.rl.li ha hb v) n 0 (fun j hj => n5 j (by omega)) (fun j hj => by rw [n5 j (by omega)]; exact hr j hj)
    · rw [if_neg h0, if_neg h0, if_neg h0]
  · rw [if_neg hc, if_neg hc]
theorem o_price {w : ww} {Q : Option Value → ww → Prop} {d : Int32} (hI : Inv w) (hQ : ∀ rz w1, Pr mX12_price 4 [.ref 57, .int d] rz w1 → Q (some (.int rz)) w1) : Ct mX11_price 5 [.ref 0, .int d] w Q := by
  obtain ⟨c, hR⟩ := hI.1
  have h8 : w 10 8 = w 58 1 := hR.2.2.1
  have hk : mrK w d = 0 → ∃ dn, dn < 8 ∧ d = nI dn ∧ w (41 + 2 * dn) 2 = w 65 dn ∧ w (41 + 2 * dn) 3 = w 66 dn ∧ vp_in (w 65 dn) 8 := fun h => by
    obtain ⟨dn, hd, rfl, h4⟩ := rfS_2 (hI.rK.trans h)
    have hS := hI.2.2.1 dn hd
    rw [hS.1] at h4
    rcases hS.2 with x | x | x
    · rw [h4] at x; exact absurd x (by decide)
    · obtain ⟨k, k1, k2⟩ := x.2.2.2.1
      exact ⟨dn, hd, rfl, x.2.1, x.2.2.1, by rw [k2]; exact vpn (by omega) (by decide)⟩
    · rw [h4] at x; exact absurd x.1 (by decide)
  refine c_X11_price (fun h => ?_) (hQ _ w (fun Q2 h2 => ?_))
  · obtain ⟨dn, hd, rfl, e1, _, e3⟩ := hk (hI.rK.symm.trans h)
    rw [fSh_n hd, e1]; exact e3
  · refine c_X12_price (fun h => ?_) (zqe (h2 w hI) ?_)
    · obtain ⟨dn, hd, rfl, _, _, e3⟩ := hk h
      rw [nI_clamp (by omega)]; exact e3
    · rw [hI.rK]
      by_cases h : mrK w d = 0
      · obtain ⟨dn, hd, rfl, e1, e2, _⟩ := hk h
        rw [if_pos h, if_pos h, fSh_n hd, e1, e2, nI_clamp (by omega)]
      · rw [if_neg h, if_neg h]
theorem fIs_9 {v : Int32} (h : fIs v 0 9 = true) : ∃ n, n ≤ 9 ∧ v = nI n := by
  simp only [fIs, Bool.and_eq_true, decide_eq_true_eq] at h
  obtain ⟨a, ha, rfl⟩ := nI_ge0 h.1
  have h2 := h.2
  rw [show (9 : Int32) = nI 9 from rfl, nI_leI ha (by decide)] at h2
  exact ⟨a, h2, rfl⟩
theorem fIs_1 {v : Int32} (h : fIs v 0 1 = true) : ∃ n, n ≤ 1 ∧ v = nI n := by
  simp only [fIs, Bool.and_eq_true, decide_eq_true_eq] at h
  obtain ⟨a, ha, rfl⟩ := nI_ge0 h.1
  have h2 := h.2
  rw [show (1 : Int32) = nI 1 from rfl, nI_leI ha (by decide)] at h2
  exact ⟨a, h2, rfl⟩
theorem o_warm {w : ww} {Q : Option Value → ww → Prop} {v : Int32} (hI : Inv w) (hQ : ∀ rz w1, Pr mX12_warm 2 [.ref 57, .int v] rz w1 → Q (some (.int rz)) w1) : Ct mX11_warm 3 [.ref 0, .int v] w Q := by
  obtain ⟨c, hR⟩ := hI.1
  have h8 : w 10 8 = w 58 1 := hR.2.2.1
  refine c_X11_warm (fun h => hQ _ w (fun Q2 h2 => c_X12_warm (fun _ => h2 w hI) (fun q => by rw [h] at q; cases q))) (fun h => hQ _ _ (fun Q2 h2 => ?_))
  refine c_X12_warm (fun q => by rw [h] at q; cases q) (fun _ => ?_)
  rw [wu_ne (by decide), ← h8]
  refine h2 _ (hI.bh (c := c) ⟨⟨hR.1.1, ?_, ?_, fun b hb => ?_⟩, ?_, ?_, fun k b hk hb => ?_⟩ (fun p hp => ?_) ?_)
  · rw [wu_nj (by decide), wu_ne (by decide)]; exact hR.1.2.1
  · obtain ⟨n, n1, n2⟩ := fIs_9 h
    exact ⟨n, n1, by rw [wu_eq]; exact n2⟩
  · rw [mB_lo (by decide)]
    refine (hR.1.2.2.2 b hb).cong (fun k hk => ?_)
    unfold mB; rw [wu_ne (by decide)]
  · rw [wu_ne (by decide), wu_nj (by decide)]; exact hR.2.1
  · rw [wu_ne (by decide), wu_eq, wu_eq]
  · rw [mB_lo (by decide)]
    have e := hR.2.2.2 k b hk hb
    unfold hB mB at *
    rw [wu_ne (by omega), wu_ne (by omega), wu_ne (by decide)]; exact e
  · unfold Kb at hp
    funext z
    rw [wu_ne (by omega), wu_ne (by omega)]
  · rw [wu_ne (by decide), wu_ne (by decide)]
theorem o_turn {w : ww} {Q : Option Value → ww → Prop} {b : Int32} (hI : Inv w) (hQ : ∀ rz w1, Pr mX12_turn 3 [.ref 57, .int b] rz w1 → Q (some (.int rz)) w1) : Ct mX11_turn 3 [.ref 0, .int b] w Q := by
  obtain ⟨c, hR⟩ := hI.1
  have h8 : w 10 8 = w 58 1 := hR.2.2.1
  refine c_X11_turn hR.now (fun h => hQ _ w (fun Q2 h2 => c_X12_turn hR.1.mow (fun _ => h2 w hI) (fun q => ?_))) (fun u h => hQ _ u (fun Q2 h2 => ?_))
  · unfold hFlp at h
    rw [hR.2.1, if_pos q] at h; cases h
  · unfold hFlp at h
    rw [hR.2.1] at h
    by_cases q : 0 ≤ b ∧ b < nI c
    · rw [if_pos q] at h
      have hb := rg_lt hR.1.1 q
      obtain ⟨bn, hbn, rfl⟩ := nI_ge0 q.1
      have e := nI_clamp hbn
      rw [e] at hb
      rw [e] at h
      rw [e] at h2
      cases h
      have hR2 : HRel (wu w (10 + 3) bn (1 - w (10 + 3) bn)) 10 (wu w 58 (2 + 5 * bn + 2) (1 - mB w 2 bn)) c := by
        have e13 : w 13 bn = mB w 2 bn := hR.2.2.2 2 bn (by decide) hb
        refine ⟨⟨hR.1.1, by rw [wu_nj (by omega)]; exact hR.1.2.1, by rw [wu_nj (by omega)]; exact hR.1.2.2.1, fun y hy => ?_⟩, by rw [wu_ne (by decide)]; exact hR.2.1, by rw [wu_ne (by decide), wu_nj (by omega)]; exact hR.2.2.1, fun k y hk hy => ?_⟩
        · by_cases z : y = bn
          · subst z
            have hg := hR.1.2.2.2 y hy
            obtain ⟨t, ht, et⟩ := hg.2.2.1
            refine ⟨?_, ?_, ?_, ?_, ?_⟩
            · rw [mB_tn (by decide), if_neg (by omega)]; exact hg.1
            · rw [mB_tn (by decide), if_neg (by omega)]; exact hg.2.1
            · rw [mB_tn (by decide), if_pos (by omega)]
              exact ⟨1 - t, by omega, by rw [et, show (1 : Int32) = nI 1 from rfl, nI_subN ht]⟩
            · rw [mB_tn (by decide), if_neg (by omega)]; exact hg.2.2.2.1
            · rw [mB_tn (by decide), if_neg (by omega)]; exact hg.2.2.2.2
          · refine (hR.1.2.2.2 y hy).cong (fun k hk => ?_)
            rw [mB_tn hk, if_neg (by omega)]
        · rw [hB_pt k y hk, mB_tn hk]
          by_cases z : y = bn ∧ k = 2
          · rw [if_pos z, if_pos z]
            show 1 - w 13 bn = _
            rw [e13]
          · rw [if_neg z, if_neg z]; exact hR.2.2.2 k y hk hy
      have hmB : mB (wu w (10 + 3) bn (1 - w (10 + 3) bn)) = mB w := by funext k y; unfold mB; rw [wu_ne (by decide)]
      have hMow : Mow (wu w (10 + 3) bn (1 - w (10 + 3) bn)) c := by
        unfold Mow
        rw [hmB, wu_ne (by decide)]; exact hR.1.mow
      refine c_X12_turn hMow (fun z => absurd q z) (fun _ => ?_)
      rw [e, hmB]
      refine zqe (h2 _ (hI.bh (c := c) (hR2.tr (fun p h1 h2 => ?_) (fun k _ => ?_)) (fun p hp => ?_) ?_)) ?_
      · funext z; rw [wu_ne (by omega)]
      · by_cases z : k = 2 + 5 * bn + 2
        · rw [z, wu_eq, wu_eq]
        · rw [wu_nj z, wu_nj z, wu_ne (by decide)]
      · unfold Kb at hp
        funext z
        rw [wu_ne (by omega), wu_ne (by omega)]
      · rw [wu_ne (by decide), wu_ne (by decide)]
      · rw [wu_eq]
        have e13 : w 13 bn = mB w 2 bn := hR.2.2.2 2 bn (by decide) hb
        show 1 - w 13 bn = _
        rw [e13]
    · rw [if_neg q] at h; cases h
