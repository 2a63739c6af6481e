/-! Rows held, faults of form, told nests, spans of pairs, drops. -/
set_option maxHeartbeats 4000000 in
theorem c_X10_holdRow {h : Nat} {so n : Int32} {w : ww} {Q : Option Value → ww → Prop} (hh : zSf h) (hQ : ∀ u : ww, (∀ p, p ≠ h → p ≠ h + 1 → u p = w p) → u h 1 = 2 → u h 4 = so → u h 5 = n → (∀ i, i < 100 → u (h+1) i = 0) → Q none u) : Ct mX10_holdRow 1 [.ref h, .int so, .int n] w Q := by
  refine Ct.of (by decide) (Nat.le_of_ble_eq_true rfl) (fun _ => Nat.le_of_ble_eq_true rfl) (fun G hR => ?_)
  have hE := hR.1
  have loop : ∀ (k i : Nat) (u : ww), i ≤ 100 → 100 - i = k → (∀ p, p ≠ h + 1 → u p = wu (wu (wu w h 1 2) h 4 so) h 5 n p) → (∀ j, j < i → u (h+1) j = 0) → G 17 [some (.ref h), some (.int so), some (.int n), some (.int (nI i))] [] u := by
    intro k
    induction k with
    | zero =>
      intro i u h1 h2 hof hz
      refine zr_iload_n hE eX10_holdRow_17 rfl ?_
      refine zr_bipush hE eX10_holdRow_18 (v := 100) (by decide) ?_
      refine zr_kicmp_ge hE eX10_holdRow_20 (tgt := 36) (by decide) (fun zc20 zd20 => ?_) (fun zc20 zd20 => absurd zc20 (by rw [show (100 : Int32) = nI 100 from rfl, nI_ltI (by omega) (by decide)]; omega))
      refine hR.2.2.2 _ _ _ _ eX10_holdRow_36 rfl ?_
      refine hQ u (fun p hp1 hp2 => ?_) ?_ ?_ ?_ (fun j hj => hz j (by omega))
      · rw [hof p hp2]; funext z; rw [wu_ne hp1, wu_ne hp1, wu_ne hp1]
      · rw [hof h (by omega), wu_nj (by decide), wu_nj (by decide), wu_eq]
      · rw [hof h (by omega), wu_nj (by decide), wu_eq]
      · rw [hof h (by omega), wu_eq]
    | succ k ih =>
      intro i u h1 h2 hof hz
      have hi0 : i < 100 := by omega
      refine zr_iload_n hE eX10_holdRow_17 rfl ?_
      refine zr_bipush hE eX10_holdRow_18 (v := 100) (by decide) ?_
      refine zr_kicmp_ge hE eX10_holdRow_20 (tgt := 36) (by decide) (fun zc20 zd20 => absurd ((nI_ltI (b := 100) (by omega) (by decide)).mpr hi0) zc20) (fun zc20 zd20 => ?_)
      refine zr_aload_n hE eX10_holdRow_23 rfl ?_
      refine zr_getR hE eX10_holdRow_24 fX10_9 (hh).s0 rfl ?_
      refine zr_iload_n hE eX10_holdRow_27 rfl ?_
      refine zr_iconst hE eX10_holdRow_28 (v := 0) (by decide) ?_
      refine zr_iast hE eX10_holdRow_29 (hh).s1 (vpn (show i < 100 by omega) (by decide)) ?_
      refine zr_iincN hE eX10_holdRow_30 rfl (by decide) rfl ?_
      refine zr_goto hE eX10_holdRow_33 (tgt := 17) (by decide) ?_
      simp only [nI_clamp (show i < 2 ^ 31 by omega)]
      refine ih (i + 1) _ (by omega) (by omega) (fun p hp => ?_) (fun j hj => ?_)
      · funext z; rw [wu_ne hp]; exact congrFun (hof p hp) z
      · by_cases q : j = i
        · subst q; rw [wu_eq]
        · rw [wu_nj q]; exact hz j (by omega)
  refine zr_aload_n hE eX10_holdRow_0 rfl ?_
  refine zr_iconst hE eX10_holdRow_1 (v := 2) (by decide) ?_
  refine zr_put hE eX10_holdRow_2 gX10_15 (hh).s0 rfl rfl rfl ?_
  refine zr_aload_n hE eX10_holdRow_5 rfl ?_
  refine zr_iload_n hE eX10_holdRow_6 rfl ?_
  refine zr_put hE eX10_holdRow_7 gX10_25 (hh).s0 rfl rfl rfl ?_
  refine zr_aload_n hE eX10_holdRow_10 rfl ?_
  refine zr_iload_n hE eX10_holdRow_11 rfl ?_
  refine zr_put hE eX10_holdRow_12 gX10_28 (hh).s0 rfl rfl rfl ?_
  refine zr_iconst hE eX10_holdRow_15 (v := 0) (by decide) ?_
  refine zr_istore_n hE eX10_holdRow_16 (by decide) rfl ?_
  exact loop 100 0 _ (by decide) rfl (fun _ _ => rfl) (fun j hj => by omega)
def ffF (at0 : Int32 → Int32) (n : Int32) : Nat → Int32 → Int32
  | 0, _ => -1
  | k + 1, p => if p < n then (if fStE at0 p < 0 then fStE at0 p ^^^ (-1) else ffF at0 n k (fStE at0 p)) else -1
set_option maxHeartbeats 4000000 in
theorem c_X10_faultOfForm {h n : Nat} {w : ww} {Q : Option Value → ww → Prop} (hh : zSf h) (hn : w h 5 = nI n) (hn1 : n ≤ 100) (hQ : Q (some (.int (if n = 0 then 0 else ffF (sAt w h) (nI n) n 0))) w) : Ct mX10_faultOfForm 7 [.ref h] w Q := by
  refine Ct.of (by decide) (Nat.le_of_ble_eq_true rfl) (fun _ => Nat.le_of_ble_eq_true rfl) (fun G hR => ?_)
  have hE := hR.1
  by_cases hn0 : n = 0
  · rw [if_pos hn0] at hQ
    subst hn0
    refine zr_aload_n hE eX10_faultOfForm_0 rfl ?_
    refine zr_getI hE eX10_faultOfForm_1 fX10_28 (hh).s0 rfl ?_
    rw [hn]
    refine zr_if_ne hE eX10_faultOfForm_4 (tgt := 9) (by decide) (fun q => absurd rfl q) (fun _ => ?_)
    refine zr_iconst hE eX10_faultOfForm_7 (v := 0) (by decide) ?_
    refine hR.2.1 _ _ _ _ _ _ eX10_faultOfForm_8 rfl rfl ?_
    exact hQ
  · rw [if_neg hn0] at hQ
    generalize hr0 : ffF (sAt w h) (nI n) n 0 = r at hQ
    have loop : ∀ (k i : Nat) (p : Int32), i ≤ n → n - i = k → ffF (sAt w h) (nI n) k p = r → G 13 [some (.ref h), some (.int p), some (.int (nI i)), none] [] w := by
      intro k
      induction k with
      | zero =>
        intro i p h1 h2 hr
        refine zr_iload_n hE eX10_faultOfForm_13 rfl ?_
        refine zr_aload_n hE eX10_faultOfForm_14 rfl ?_
        refine zr_getI hE eX10_faultOfForm_15 fX10_28 (hh).s0 rfl ?_
        rw [hn]
        refine zr_kicmp_ge hE eX10_faultOfForm_18 (tgt := 51) (by decide) (fun zc18 zd18 => ?_) (fun zc18 zd18 => absurd zc18 (by rw [nI_ltI (by omega) (by omega)]; omega))
        refine zr_iconst hE eX10_faultOfForm_51 (v := -1) (by decide) ?_
        refine hR.2.1 _ _ _ _ _ _ eX10_faultOfForm_52 rfl rfl ?_
        rw [← hr] at hQ
        exact hQ
      | succ k ih =>
        intro i p h1 h2 hr
        have hi0 : i < n := by omega
        refine zr_iload_n hE eX10_faultOfForm_13 rfl ?_
        refine zr_aload_n hE eX10_faultOfForm_14 rfl ?_
        refine zr_getI hE eX10_faultOfForm_15 fX10_28 (hh).s0 rfl ?_
        rw [hn]
        refine zr_kicmp_ge hE eX10_faultOfForm_18 (tgt := 51) (by decide) (fun zc18 zd18 => absurd ((nI_ltI (by omega) (by omega)).mpr hi0) zc18) (fun zc18 zd18 => ?_)
        refine zr_iload_n hE eX10_faultOfForm_21 rfl ?_
        refine zr_aload_n hE eX10_faultOfForm_22 rfl ?_
        refine zr_getI hE eX10_faultOfForm_23 fX10_28 (hh).s0 rfl ?_
        rw [hn]
        refine zr_kicmp_ge hE eX10_faultOfForm_26 (tgt := 51) (by decide) (fun zc26 zd26 => ?_) (fun zc26 zd26 => ?_)
        · refine zr_iconst hE eX10_faultOfForm_51 (v := -1) (by decide) ?_
          refine hR.2.1 _ _ _ _ _ _ eX10_faultOfForm_52 rfl rfl ?_
          rw [← hr, ffF, if_neg zc26] at hQ
          exact hQ
        · refine zr_aload_n hE eX10_faultOfForm_29 rfl ?_
          refine zr_iload_n hE eX10_faultOfForm_30 rfl ?_
          refine zr_callV1 hE eX10_faultOfForm_31 lX10_35 (hh).s0 rfl rfl (by decide) (Nat.le_of_ble_eq_true rfl) (c_X10_statementEnd hh (by rw [hn, show (100 : Int32) = nI 100 from rfl, nI_leI (by omega) (by decide)]; exact hn1) ?_)
          refine zr_istore_n hE eX10_faultOfForm_34 (by decide) rfl ?_
          refine zr_iload_n hE eX10_faultOfForm_35 rfl ?_
          refine zr_kif_ge hE eX10_faultOfForm_36 (tgt := 43) (by decide) (fun zc36 zd36 => ?_) (fun zc36 zd36 => ?_)
          · refine zr_iload_n hE eX10_faultOfForm_43 rfl ?_
            refine zr_istore_n hE eX10_faultOfForm_44 (by decide) rfl ?_
            refine zr_iincN hE eX10_faultOfForm_45 rfl (by decide) rfl ?_
            refine zr_goto hE eX10_faultOfForm_48 (tgt := 13) (by decide) ?_
            refine zr_mask hE [true, true, true, false] ?_
            refine ih (i + 1) _ (by omega) (by omega) ?_
            rw [← hr, ffF, if_pos zc26, if_neg (by first | exact zc36 | exact zd36)]
          · refine zr_iload_n hE eX10_faultOfForm_39 rfl ?_
            refine zr_iconst hE eX10_faultOfForm_40 (v := -1) (by decide) ?_
            refine zr_ixor hE eX10_faultOfForm_41 ?_
            refine hR.2.1 _ _ _ _ _ _ eX10_faultOfForm_42 rfl rfl ?_
            rw [← hr, ffF, if_pos zc26, if_pos (by first | exact zd36 | exact zc36)] at hQ
            exact hQ
    refine zr_aload_n hE eX10_faultOfForm_0 rfl ?_
    refine zr_getI hE eX10_faultOfForm_1 fX10_28 (hh).s0 rfl ?_
    rw [hn]
    refine zr_if_ne hE eX10_faultOfForm_4 (tgt := 9) (by decide) (fun _ => ?_) (fun q => absurd ((nI_0i (by omega)).mp q) hn0)
    refine zr_iconst hE eX10_faultOfForm_9 (v := 0) (by decide) ?_
    refine zr_istore_n hE eX10_faultOfForm_10 (by decide) rfl ?_
    refine zr_iconst hE eX10_faultOfForm_11 (v := 0) (by decide) ?_
    refine zr_istore_n hE eX10_faultOfForm_12 (by decide) rfl ?_
    exact loop n 0 0 (Nat.zero_le _) rfl hr0
def fmF (f : Nat → Int32) (cnt : Int32) (li : Nat → Nat → Bool) : Nat → Nat → Int32 → Int32
  | 0, _, _ => -1
  | k + 1, i, came => if ¬ (0 ≤ f i ∧ f i < cnt) ∨ (came >>> (f i &&& 31)) &&& 1 = 1 then nI i else
    if 0 < i ∧ li (f i).toNatClampNeg (f (i - 1)).toNatClampNeg = false then nI i else fmF f cnt li k (i + 1) (came ||| ((1 : Int32) <<< (f i &&& 31)))
theorem sAt_lt {w : ww} {h n i : Nat} (hn : w h 5 = nI n) (hn1 : n ≤ 100) (hi : i < n) : sAt w h (nI i) = w (h+1) i := by
  rw [sAt, if_pos ⟨nI_pos' (by omega), by rw [hn]; exact (nI_ltI (by omega) (by omega)).mpr hi⟩, nI_clamp (by omega)]
theorem has_vp {b cnt : Int32} {c : Nat} (h : 0 ≤ b ∧ b < cnt) (hc : cnt = nI c) (hc1 : c ≤ 10) : vp_in b 10 ∧ b.toNatClampNeg < c := by
  obtain ⟨h0, h1⟩ := h
  obtain ⟨j, hj, rfl⟩ := nI_of (fun q => absurd h0 (Int32.not_le.mpr q))
  rw [hc, nI_ltI hj (by omega)] at h1
  exact ⟨vpn (by omega) (by decide), by rw [nI_clamp hj]; exact h1⟩
set_option maxHeartbeats 4000000 in
theorem c_X11_firstMisplaced {h n c : Nat} {w : ww} {Q : Option Value → ww → Prop} (hh : zSf h) (hn : w h 5 = nI n) (hn1 : n ≤ 100) (hc : c ≤ 10) (hcw : w 10 7 = nI c) (hk : ∀ b, b < c → vp_in (w 11 b) 8) (hQ : Q (some (.int (fmF (w (h+1)) (w 10 7) (fun a b => fLi (hB w 10) a b (w 10 8)) n 0 0))) w) : Ct mX11_firstMisplaced 6 [.ref 0, .ref h] w Q := by
  refine Ct.of (by decide) (Nat.le_of_ble_eq_true rfl) (fun _ => Nat.le_of_ble_eq_true rfl) (fun G hR => ?_)
  have hE := hR.1
  generalize hr0 : fmF (w (h+1)) (w 10 7) (fun a b => fLi (hB w 10) a b (w 10 8)) n 0 0 = r at hQ
  have loop : ∀ (k i : Nat) (came : Int32), i ≤ n → n - i = k → (∀ j, i = j + 1 → vp_in (w (h+1) j) 10 ∧ (w (h+1) j).toNatClampNeg < c) → fmF (w (h+1)) (w 10 7) (fun a b => fLi (hB w 10) a b (w 10 8)) k i came = r → G 4 [some (.ref 0), some (.ref h), some (.int came), some (.int (nI i)), none] [] w := by
    intro k
    induction k with
    | zero =>
      intro i came h1 h2 hpv hr
      refine zr_iload_n hE eX11_firstMisplaced_4 rfl ?_
      refine zr_aload_n hE eX11_firstMisplaced_5 rfl ?_
      refine zr_getI hE eX11_firstMisplaced_6 fX11_211 (hh).s0 rfl ?_
      rw [hn]
      refine zr_kicmp_ge hE eX11_firstMisplaced_9 (tgt := 88) (by decide) (fun zc9 zd9 => ?_) (fun zc9 zd9 => absurd zc9 (by rw [nI_ltI (by omega) (by omega)]; omega))
      refine zr_iconst hE eX11_firstMisplaced_88 (v := -1) (by decide) ?_
      refine hR.2.1 _ _ _ _ _ _ eX11_firstMisplaced_89 rfl rfl ?_
      rw [← hr] at hQ
      exact hQ
    | succ k ih =>
      intro i came h1 h2 hpv hr
      have hi0 : i < n := by omega
      refine zr_iload_n hE eX11_firstMisplaced_4 rfl ?_
      refine zr_aload_n hE eX11_firstMisplaced_5 rfl ?_
      refine zr_getI hE eX11_firstMisplaced_6 fX11_211 (hh).s0 rfl ?_
      rw [hn]
      refine zr_kicmp_ge hE eX11_firstMisplaced_9 (tgt := 88) (by decide) (fun zc9 zd9 => absurd ((nI_ltI (by omega) (by omega)).mpr hi0) zc9) (fun zc9 zd9 => ?_)
      refine zr_aload_n hE eX11_firstMisplaced_12 rfl ?_
      refine zr_iload_n hE eX11_firstMisplaced_13 rfl ?_
      refine zr_callV1 hE eX11_firstMisplaced_14 lX11_217 (hh).s0 rfl rfl (by decide) (Nat.le_of_ble_eq_true rfl) (c_X10_at hh (by rw [hn, show (100 : Int32) = nI 100 from rfl, nI_leI (by omega) (by decide)]; exact hn1) ?_)
      rw [sAt_lt hn hn1 hi0]
      refine zr_istore hE eX11_firstMisplaced_17 (by decide) rfl ?_
      refine zr_aload_n hE eX11_firstMisplaced_19 rfl ?_
      refine zr_getR hE eX11_firstMisplaced_20 fX11_42 zs0 rfl ?_
      refine zr_iload hE eX11_firstMisplaced_23 rfl ?_
      refine zr_callV1 hE eX11_firstMisplaced_25 lX11_82 (zH10).s0 rfl rfl (by decide) (Nat.le_of_ble_eq_true rfl) (c_X5_has zH10 ?_)
      refine zr_beq hE eX11_firstMisplaced_28 (tgt := 41) (by decide) (fun zc28 => ?_) (fun zc28 => ?_)
      · refine zr_iload_n hE eX11_firstMisplaced_41 rfl ?_
        refine hR.2.1 _ _ _ _ _ _ eX11_firstMisplaced_42 rfl rfl ?_
        first
          | (rw [← hr, fmF, if_pos (Or.inl (by simpa using zc28))] at hQ; exact hQ)
          | (rw [← hr, fmF, if_pos (Or.inr zc38)] at hQ; exact hQ)
      · refine zr_iload_n hE eX11_firstMisplaced_31 rfl ?_
        refine zr_iload hE eX11_firstMisplaced_32 rfl ?_
        refine zr_ishr hE eX11_firstMisplaced_34 ?_
        refine zr_iconst hE eX11_firstMisplaced_35 (v := 1) (by decide) ?_
        refine zr_iand hE eX11_firstMisplaced_36 ?_
        refine zr_iconst hE eX11_firstMisplaced_37 (v := 1) (by decide) ?_
        refine zr_icmp_ne hE eX11_firstMisplaced_38 (tgt := 43) (by decide) (fun zc38 => ?_) (fun zc38 => ?_)
        · refine zr_iload_n hE eX11_firstMisplaced_43 rfl ?_
          refine zr_kif_le hE eX11_firstMisplaced_44 (tgt := 75) (by decide) (fun zc44 zd44 => ?_) (fun zc44 zd44 => ?_)
          · refine zr_iload_n hE eX11_firstMisplaced_75 rfl ?_
            refine zr_iconst hE eX11_firstMisplaced_76 (v := 1) (by decide) ?_
            refine zr_iload hE eX11_firstMisplaced_77 rfl ?_
            refine zr_ishl hE eX11_firstMisplaced_79 ?_
            refine zr_ior hE eX11_firstMisplaced_80 ?_
            refine zr_istore_n hE eX11_firstMisplaced_81 (by decide) rfl ?_
            refine zr_iincN hE eX11_firstMisplaced_82 rfl (by decide) rfl ?_
            refine zr_goto hE eX11_firstMisplaced_85 (tgt := 4) (by decide) ?_
            refine zr_mask hE [true, true, true, true, false] ?_
            have hip : ¬ 0 < i := by
              intro q
              exact zc44 (by rw [show (0 : Int32) = nI 0 from rfl, nI_ltI (by decide) (by omega)]; exact q)
            refine ih (i + 1) _ (by omega) (by omega) (fun j hj => by cases hj; exact has_vp (by simpa using zc28) hcw hc) ?_
            rw [← hr, fmF, if_neg (fun q => q.elim (fun q => q (by simpa using zc28)) zc38), if_neg (fun q => hip q.1)]
          · refine zr_aload_n hE eX11_firstMisplaced_47 rfl ?_
            refine zr_getR hE eX11_firstMisplaced_48 fX11_42 zs0 rfl ?_
            refine zr_iload hE eX11_firstMisplaced_51 rfl ?_
            refine zr_aload_n hE eX11_firstMisplaced_53 rfl ?_
            refine zr_iload_n hE eX11_firstMisplaced_54 rfl ?_
            refine zr_iconst hE eX11_firstMisplaced_55 (v := 1) (by decide) ?_
            refine zr_isub hE eX11_firstMisplaced_56 ?_
            refine zr_callV1 hE eX11_firstMisplaced_57 lX11_217 (hh).s0 rfl rfl (by decide) (Nat.le_of_ble_eq_true rfl) (c_X10_at hh (by rw [hn, show (100 : Int32) = nI 100 from rfl, nI_leI (by omega) (by decide)]; exact hn1) ?_)
            have hip : 0 < i := by
              have q := zc44
              rw [show (0 : Int32) = nI 0 from rfl, nI_ltI (by decide) (by omega)] at q
              exact q
            obtain ⟨i0, rfl⟩ : ∃ i0, i = i0 + 1 := ⟨i - 1, by omega⟩
            rw [nI_pred, sAt_lt hn hn1 (by omega)]
            refine zr_aload_n hE eX11_firstMisplaced_60 rfl ?_
            refine zr_getR hE eX11_firstMisplaced_61 fX11_42 zs0 rfl ?_
            refine zr_getI hE eX11_firstMisplaced_64 fX11_106 (zH10).s0 rfl ?_
            have hb := has_vp (b := w (h+1) (i0 + 1)) (by simpa using zc28) hcw hc
            refine zr_callV3 hE eX11_firstMisplaced_67 lX11_151 (zH10).s0 rfl rfl (by decide) (Nat.le_of_ble_eq_true rfl) (c_X5_isIn zH10 hb.1 (hpv i0 rfl).1 (hk _ hb.2) (hk _ (hpv i0 rfl).2) ?_)
            refine zr_bne hE eX11_firstMisplaced_70 (tgt := 75) (by decide) (fun zc70 => ?_) (fun zc70 => ?_)
            · refine zr_iload_n hE eX11_firstMisplaced_75 rfl ?_
              refine zr_iconst hE eX11_firstMisplaced_76 (v := 1) (by decide) ?_
              refine zr_iload hE eX11_firstMisplaced_77 rfl ?_
              refine zr_ishl hE eX11_firstMisplaced_79 ?_
              refine zr_ior hE eX11_firstMisplaced_80 ?_
              refine zr_istore_n hE eX11_firstMisplaced_81 (by decide) rfl ?_
              refine zr_iincN hE eX11_firstMisplaced_82 rfl (by decide) rfl ?_
              refine zr_goto hE eX11_firstMisplaced_85 (tgt := 4) (by decide) ?_
              refine zr_mask hE [true, true, true, true, false] ?_
              refine ih (i0 + 1 + 1) _ (by omega) (by omega) (fun j hj => by cases hj; exact has_vp (by simpa using zc28) hcw hc) ?_
              rw [← hr, fmF, if_neg (fun q => q.elim (fun q => q (by simpa using zc28)) zc38), if_neg (fun q => by rw [Nat.add_sub_cancel, zc70] at q; exact absurd q.2 (by decide))]
            · refine zr_iload_n hE eX11_firstMisplaced_73 rfl ?_
              refine hR.2.1 _ _ _ _ _ _ eX11_firstMisplaced_74 rfl rfl ?_
              rw [← hr, fmF, if_neg (fun q => q.elim (fun q => q (by simpa using zc28)) zc38), if_pos ⟨hip, zc70⟩] at hQ
              exact hQ
        · refine zr_iload_n hE eX11_firstMisplaced_41 rfl ?_
          refine hR.2.1 _ _ _ _ _ _ eX11_firstMisplaced_42 rfl rfl ?_
          first
            | (rw [← hr, fmF, if_pos (Or.inl (by simpa using zc28))] at hQ; exact hQ)
            | (rw [← hr, fmF, if_pos (Or.inr zc38)] at hQ; exact hQ)
  refine zr_iconst hE eX11_firstMisplaced_0 (v := 0) (by decide) ?_
  refine zr_istore_n hE eX11_firstMisplaced_1 (by decide) rfl ?_
  refine zr_iconst hE eX11_firstMisplaced_2 (v := 0) (by decide) ?_
  refine zr_istore_n hE eX11_firstMisplaced_3 (by decide) rfl ?_
  exact loop n 0 0 (Nat.zero_le _) rfl (fun j hj => by omega) hr0
def bkD (cnt s : Int32) : Int32 := (s &&& 2147483647) / 65536 - (s &&& 2147483647) / 65536 / cnt * cnt
def bkF (cnt : Int32) : Nat → Int32 → Int32 → Int32
  | 0, _, b => b
  | k + 1, s, b => bkF cnt k (s * 1103515245 + 12345) (b ||| ((1 : Int32) <<< (bkD cnt (s * 1103515245 + 12345) &&& 31)))
set_option maxHeartbeats 4000000 in
theorem c_X11_brokenBy {n : Nat} {z : Int32} {w : ww} {Q : Option Value → ww → Prop} (hn : n < 2 ^ 30) (hc0 : 0 < w 10 7) (hQ : Q (some (.int (bkF (w 10 7) n z 0))) w) : Ct mX11_brokenBy 1 [.ref 0, .int (nI n), .int z] w Q := by
  refine Ct.of (by decide) (Nat.le_of_ble_eq_true rfl) (fun _ => Nat.le_of_ble_eq_true rfl) (fun G hR => ?_)
  have hE := hR.1
  generalize hr0 : bkF (w 10 7) n z 0 = r at hQ
  have loop : ∀ (k i : Nat) (s b : Int32), i ≤ n → n - i = k → bkF (w 10 7) k s b = r → G 8 [some (.ref 0), some (.int (nI n)), some (.int z), some (.int b), some (.int s), some (.int (nI i)), none] [] w := by
    intro k
    induction k with
    | zero =>
      intro i s b h1 h2 hr
      refine zr_iload hE eX11_brokenBy_8 rfl ?_
      refine zr_iload_n hE eX11_brokenBy_10 rfl ?_
      refine zr_kicmp_ge hE eX11_brokenBy_11 (tgt := 69) (by decide) (fun zc11 zd11 => ?_) (fun zc11 zd11 => absurd zc11 (by rw [nI_ltI (by omega) (by omega)]; omega))
      refine zr_iload_n hE eX11_brokenBy_69 rfl ?_
      refine hR.2.1 _ _ _ _ _ _ eX11_brokenBy_70 rfl rfl ?_
      rw [← hr] at hQ
      exact hQ
    | succ k ih =>
      intro i s b h1 h2 hr
      have hi0 : i < n := by omega
      refine zr_iload hE eX11_brokenBy_8 rfl ?_
      refine zr_iload_n hE eX11_brokenBy_10 rfl ?_
      refine zr_kicmp_ge hE eX11_brokenBy_11 (tgt := 69) (by decide) (fun zc11 zd11 => absurd ((nI_ltI (by omega) (by omega)).mpr hi0) zc11) (fun zc11 zd11 => ?_)
      refine zr_aload_n hE eX11_brokenBy_14 rfl ?_
      refine zr_getR hE eX11_brokenBy_15 fX11_42 zs0 rfl ?_
      refine zr_getI hE eX11_brokenBy_18 fX11_138 (zH10).s0 rfl ?_
      refine zr_kif_le hE eX11_brokenBy_21 (tgt := 69) (by decide) (fun zc21 zd21 => absurd hc0 zc21) (fun zc21 zd21 => ?_)
      refine zr_iload hE eX11_brokenBy_24 rfl ?_
      refine zr_ldcw hE eX11_brokenBy_26 hX11_306 ?_
      refine zr_imul hE eX11_brokenBy_29 ?_
      refine zr_sipush hE eX11_brokenBy_30 (v := 12345) (by decide) ?_
      refine zr_iadd hE eX11_brokenBy_33 ?_
      refine zr_istore hE eX11_brokenBy_34 (by decide) rfl ?_
      refine zr_iload hE eX11_brokenBy_36 rfl ?_
      refine zr_ldcw hE eX11_brokenBy_38 hX11_307 ?_
      refine zr_iand hE eX11_brokenBy_41 ?_
      refine zr_ldcw hE eX11_brokenBy_42 hX11_308 ?_
      refine zr_idiv hE eX11_brokenBy_45 (by decide) ?_
      refine zr_aload_n hE eX11_brokenBy_46 rfl ?_
      refine zr_getR hE eX11_brokenBy_47 fX11_42 zs0 rfl ?_
      refine zr_getI hE eX11_brokenBy_50 fX11_138 (zH10).s0 rfl ?_
      refine zr_irem hE eX11_brokenBy_53 (fun q => absurd hc0 (by rw [q]; decide)) ?_
      refine zr_istore hE eX11_brokenBy_54 (by decide) rfl ?_
      refine zr_iload_n hE eX11_brokenBy_56 rfl ?_
      refine zr_iconst hE eX11_brokenBy_57 (v := 1) (by decide) ?_
      refine zr_iload hE eX11_brokenBy_58 rfl ?_
      refine zr_ishl hE eX11_brokenBy_60 ?_
      refine zr_ior hE eX11_brokenBy_61 ?_
      refine zr_istore_n hE eX11_brokenBy_62 (by decide) rfl ?_
      refine zr_iincN hE eX11_brokenBy_63 rfl (by decide) rfl ?_
      refine zr_goto hE eX11_brokenBy_66 (tgt := 8) (by decide) ?_
      refine zr_mask hE [true, true, true, true, true, true, false] ?_
      exact ih (i + 1) _ _ (by omega) (by omega) (by rw [← hr]; rfl)
  refine zr_iconst hE eX11_brokenBy_0 (v := 0) (by decide) ?_
  refine zr_istore_n hE eX11_brokenBy_1 (by decide) rfl ?_
  refine zr_iload_n hE eX11_brokenBy_2 rfl ?_
  refine zr_istore hE eX11_brokenBy_3 (by decide) rfl ?_
  refine zr_iconst hE eX11_brokenBy_5 (v := 0) (by decide) ?_
  refine zr_istore hE eX11_brokenBy_6 (by decide) rfl ?_
  exact loop n 0 z 0 (Nat.zero_le _) rfl hr0
def fPp (B : zBv) (v e : Int32) (kn c : Nat) : Int32 := sumN (fun a => sumN (fun b => one (!decide (a = b) && decide (fSp B a (if a = kn then 0 else e) b (if b = kn then 0 else e) v = 1))) c) c
set_option maxHeartbeats 4000000 in
theorem c_X11_pairsPerhaps {kn c : Nat} {e : Int32} {w : ww} {Q : Option Value → ww → Prop} (hkn : kn < 10) (hc : c ≤ 10) (hcw : w 10 7 = nI c) (hk : ∀ b, b < c → vp_in (w 11 b) 8) (hQ : Q (some (.int (fPp (hB w 10) (w 10 8) e kn c))) w) : Ct mX11_pairsPerhaps 6 [.ref 0, .int (nI kn), .int e] w Q := by
  refine Ct.of (by decide) (Nat.le_of_ble_eq_true rfl) (fun _ => Nat.le_of_ble_eq_true rfl) (fun G hR => ?_)
  have hE := hR.1
  have loop : ∀ (k a : Nat), a ≤ c → c - a = k → ∀ s : Int32, s = sumN (fun a => sumN (fun b => one (!decide (a = b) && decide (fSp (hB w 10) a (if a = kn then 0 else e) b (if b = kn then 0 else e) (w 10 8) = 1))) c) a → G 5 [some (.ref 0), some (.int (nI kn)), some (.int e), some (.int s), some (.int (nI a)), none, none, none] [] w := by
    intro k
    induction k with
    | zero =>
      intro a h1 h2 s hs
      have hac : a = c := by omega
      subst hac
      refine zr_iload hE eX11_pairsPerhaps_5 rfl ?_
      refine zr_aload_n hE eX11_pairsPerhaps_7 rfl ?_
      refine zr_getR hE eX11_pairsPerhaps_8 fX11_42 zs0 rfl ?_
      refine zr_getI hE eX11_pairsPerhaps_11 fX11_138 (zH10).s0 rfl ?_
      rw [hcw]
      refine zr_kicmp_ge hE eX11_pairsPerhaps_14 (tgt := 99) (by decide) (fun zc14 zd14 => ?_) (fun zc14 zd14 => absurd zc14 (by rw [nI_ltI (by omega) (by omega)]; omega))
      refine zr_iload_n hE eX11_pairsPerhaps_99 rfl ?_
      refine hR.2.1 _ _ _ _ _ _ eX11_pairsPerhaps_100 rfl rfl ?_
      refine zq hQ ?_
      rw [hs]; rfl
    | succ k ih =>
      intro a h1 h2 s hs
      have ha0 : a < c := by omega
      have loop2 : ∀ (k2 b : Nat), b ≤ c → c - b = k2 → ∀ s2 : Int32, s2 = sumN (fun a => sumN (fun b => one (!decide (a = b) && decide (fSp (hB w 10) a (if a = kn then 0 else e) b (if b = kn then 0 else e) (w 10 8) = 1))) c) a + sumN (fun b => one (!decide (a = b) && decide (fSp (hB w 10) a (if a = kn then 0 else e) b (if b = kn then 0 else e) (w 10 8) = 1))) b → G 20 [some (.ref 0), some (.int (nI kn)), some (.int e), some (.int s2), some (.int (nI a)), some (.int (nI b)), none, none] [] w := by
        intro k2
        induction k2 with
        | zero =>
          intro b h3 h4 s2 hs2
          have hbc : b = c := by omega
          subst hbc
          refine zr_iload hE eX11_pairsPerhaps_20 rfl ?_
          refine zr_aload_n hE eX11_pairsPerhaps_22 rfl ?_
          refine zr_getR hE eX11_pairsPerhaps_23 fX11_42 zs0 rfl ?_
          refine zr_getI hE eX11_pairsPerhaps_26 fX11_138 (zH10).s0 rfl ?_
          rw [hcw]
          refine zr_kicmp_ge hE eX11_pairsPerhaps_29 (tgt := 93) (by decide) (fun zc29 zd29 => ?_) (fun zc29 zd29 => absurd zc29 (by rw [nI_ltI (by omega) (by omega)]; omega))
          refine zr_iincN hE eX11_pairsPerhaps_93 rfl (by decide) rfl ?_
          refine zr_goto hE eX11_pairsPerhaps_96 (tgt := 5) (by decide) ?_
          refine zr_mask hE [true, true, true, true, true, false, false, false] ?_
          exact ih (a + 1) (by omega) (by omega) _ (by rw [hs2]; rfl)
        | succ k2 ih2 =>
          intro b h3 h4 s2 hs2
          have hb0 : b < c := by omega
          refine zr_iload hE eX11_pairsPerhaps_20 rfl ?_
          refine zr_aload_n hE eX11_pairsPerhaps_22 rfl ?_
          refine zr_getR hE eX11_pairsPerhaps_23 fX11_42 zs0 rfl ?_
          refine zr_getI hE eX11_pairsPerhaps_26 fX11_138 (zH10).s0 rfl ?_
          rw [hcw]
          refine zr_kicmp_ge hE eX11_pairsPerhaps_29 (tgt := 93) (by decide) (fun zc29 zd29 => absurd ((nI_ltI (by omega) (by omega)).mpr hb0) zc29) (fun zc29 zd29 => ?_)
          refine zr_iload hE eX11_pairsPerhaps_32 rfl ?_
          refine zr_iload_n hE eX11_pairsPerhaps_34 rfl ?_
          refine zr_icmp_ne hE eX11_pairsPerhaps_35 (tgt := 42) (by decide) (fun zc35 => ?_) (fun zc35 => ?_)
          · refine zr_iload_n hE eX11_pairsPerhaps_42 rfl ?_
            refine zr_istore hE eX11_pairsPerhaps_43 (by decide) rfl ?_
            refine zr_iload hE eX11_pairsPerhaps_45 rfl ?_
            refine zr_iload_n hE eX11_pairsPerhaps_47 rfl ?_
            refine zr_icmp_ne hE eX11_pairsPerhaps_48 (tgt := 55) (by decide) (fun zc48 => ?_) (fun zc48 => ?_)
            · refine zr_iload_n hE eX11_pairsPerhaps_55 rfl ?_
              refine zr_istore hE eX11_pairsPerhaps_56 (by decide) rfl ?_
              refine zr_iload hE eX11_pairsPerhaps_58 rfl ?_
              refine zr_iload hE eX11_pairsPerhaps_60 rfl ?_
              refine zr_icmp_eq hE eX11_pairsPerhaps_62 (tgt := 87) (by decide) (fun zc62 => ?_) (fun zc62 => ?_)
              · refine zr_iincN hE eX11_pairsPerhaps_87 rfl (by decide) rfl ?_
                refine zr_goto hE eX11_pairsPerhaps_90 (tgt := 20) (by decide) ?_
                refine zr_mask hE [true, true, true, true, true, true, false, false] ?_
                refine ih2 (b + 1) (by omega) (by omega) _ ?_
                rw [hs2, sumN]
                first
                  | (have q : a = b := (nI_eq (by omega) (by omega)).mp zc62
                     simp only [q, decide_true, Bool.not_true, Bool.false_and, one, Int32.add_zero]
                     done)
                  | (have q : ¬ a = b := fun e => zc62 (by rw [e])
                     first
                       | have qa : (if a = kn then (0 : Int32) else e) = e := if_neg (fun x => zc35 (by rw [x]))
                       | have qa : (if a = kn then (0 : Int32) else e) = 0 := if_pos ((nI_eq (by omega) (by omega)).mp zc35)
                     first
                       | have qb : (if b = kn then (0 : Int32) else e) = e := if_neg (fun x => zc48 (by rw [x]))
                       | have qb : (if b = kn then (0 : Int32) else e) = 0 := if_pos ((nI_eq (by omega) (by omega)).mp zc48)
                     simp only [q, qa, qb, zc81, decide_false, decide_true, Bool.not_false, Bool.true_and, one, Int32.add_zero, Int32.add_assoc]
                     try rfl)
              · refine zr_aload_n hE eX11_pairsPerhaps_65 rfl ?_
                refine zr_getR hE eX11_pairsPerhaps_66 fX11_42 zs0 rfl ?_
                refine zr_iload hE eX11_pairsPerhaps_69 rfl ?_
                refine zr_iload hE eX11_pairsPerhaps_71 rfl ?_
                refine zr_iload hE eX11_pairsPerhaps_73 rfl ?_
                refine zr_iload hE eX11_pairsPerhaps_75 rfl ?_
                refine zr_callV4 hE eX11_pairsPerhaps_77 lX11_223 (zH10).s0 rfl rfl (by decide) (Nat.le_of_ble_eq_true rfl) (c_X5_spanned zH10 (vpn (show a < 10 by omega) (by decide)) (vpn (show b < 10 by omega) (by decide)) (by rw [nI_clamp (by omega)]; exact hk _ (by omega)) (by rw [nI_clamp (by omega)]; exact hk _ (by omega)) ?_)
                simp only [nI_clamp (show a < 2 ^ 31 by omega), nI_clamp (show b < 2 ^ 31 by omega)]
                refine zr_iconst hE eX11_pairsPerhaps_80 (v := 1) (by decide) ?_
                refine zr_icmp_ne hE eX11_pairsPerhaps_81 (tgt := 87) (by decide) (fun zc81 => ?_) (fun zc81 => ?_)
                · refine zr_iincN hE eX11_pairsPerhaps_87 rfl (by decide) rfl ?_
                  refine zr_goto hE eX11_pairsPerhaps_90 (tgt := 20) (by decide) ?_
                  refine zr_mask hE [true, true, true, true, true, true, false, false] ?_
                  refine ih2 (b + 1) (by omega) (by omega) _ ?_
                  rw [hs2, sumN]
                  first
                    | (have q : a = b := (nI_eq (by omega) (by omega)).mp zc62
                       simp only [q, decide_true, Bool.not_true, Bool.false_and, one, Int32.add_zero]
                       done)
                    | (have q : ¬ a = b := fun e => zc62 (by rw [e])
                       first
                         | have qa : (if a = kn then (0 : Int32) else e) = e := if_neg (fun x => zc35 (by rw [x]))
                         | have qa : (if a = kn then (0 : Int32) else e) = 0 := if_pos ((nI_eq (by omega) (by omega)).mp zc35)
                       first
                         | have qb : (if b = kn then (0 : Int32) else e) = e := if_neg (fun x => zc48 (by rw [x]))
                         | have qb : (if b = kn then (0 : Int32) else e) = 0 := if_pos ((nI_eq (by omega) (by omega)).mp zc48)
                       simp only [q, qa, qb, zc81, decide_false, decide_true, Bool.not_false, Bool.true_and, one, Int32.add_zero, Int32.add_assoc]
                       try rfl)
                · refine zr_iinc hE eX11_pairsPerhaps_84 rfl rfl (by decide) rfl ?_
                  refine zr_iincN hE eX11_pairsPerhaps_87 rfl (by decide) rfl ?_
                  refine zr_goto hE eX11_pairsPerhaps_90 (tgt := 20) (by decide) ?_
                  refine zr_mask hE [true, true, true, true, true, true, false, false] ?_
                  refine ih2 (b + 1) (by omega) (by omega) _ ?_
                  rw [hs2, sumN]
                  first
                    | (have q : a = b := (nI_eq (by omega) (by omega)).mp zc62
                       simp only [q, decide_true, Bool.not_true, Bool.false_and, one, Int32.add_zero]
                       done)
                    | (have q : ¬ a = b := fun e => zc62 (by rw [e])
                       first
                         | have qa : (if a = kn then (0 : Int32) else e) = e := if_neg (fun x => zc35 (by rw [x]))
                         | have qa : (if a = kn then (0 : Int32) else e) = 0 := if_pos ((nI_eq (by omega) (by omega)).mp zc35)
                       first
                         | have qb : (if b = kn then (0 : Int32) else e) = e := if_neg (fun x => zc48 (by rw [x]))
                         | have qb : (if b = kn then (0 : Int32) else e) = 0 := if_pos ((nI_eq (by omega) (by omega)).mp zc48)
                       simp only [q, qa, qb, zc81, decide_false, decide_true, Bool.not_false, Bool.true_and, one, Int32.add_zero, Int32.add_assoc]
                       try rfl)
            · refine zr_iconst hE eX11_pairsPerhaps_51 (v := 0) (by decide) ?_
              refine zr_goto hE eX11_pairsPerhaps_52 (tgt := 56) (by decide) ?_
              refine zr_istore hE eX11_pairsPerhaps_56 (by decide) rfl ?_
              refine zr_iload hE eX11_pairsPerhaps_58 rfl ?_
              refine zr_iload hE eX11_pairsPerhaps_60 rfl ?_
              refine zr_icmp_eq hE eX11_pairsPerhaps_62 (tgt := 87) (by decide) (fun zc62 => ?_) (fun zc62 => ?_)
              · refine zr_iincN hE eX11_pairsPerhaps_87 rfl (by decide) rfl ?_
                refine zr_goto hE eX11_pairsPerhaps_90 (tgt := 20) (by decide) ?_
                refine zr_mask hE [true, true, true, true, true, true, false, false] ?_
                refine ih2 (b + 1) (by omega) (by omega) _ ?_
                rw [hs2, sumN]
                first
                  | (have q : a = b := (nI_eq (by omega) (by omega)).mp zc62
                     simp only [q, decide_true, Bool.not_true, Bool.false_and, one, Int32.add_zero]
                     done)
                  | (have q : ¬ a = b := fun e => zc62 (by rw [e])
                     first
                       | have qa : (if a = kn then (0 : Int32) else e) = e := if_neg (fun x => zc35 (by rw [x]))
                       | have qa : (if a = kn then (0 : Int32) else e) = 0 := if_pos ((nI_eq (by omega) (by omega)).mp zc35)
                     first
                       | have qb : (if b = kn then (0 : Int32) else e) = e := if_neg (fun x => zc48 (by rw [x]))
                       | have qb : (if b = kn then (0 : Int32) else e) = 0 := if_pos ((nI_eq (by omega) (by omega)).mp zc48)
                     simp only [q, qa, qb, zc81, decide_false, decide_true, Bool.not_false, Bool.true_and, one, Int32.add_zero, Int32.add_assoc]
                     try rfl)
              · refine zr_aload_n hE eX11_pairsPerhaps_65 rfl ?_
                refine zr_getR hE eX11_pairsPerhaps_66 fX11_42 zs0 rfl ?_
                refine zr_iload hE eX11_pairsPerhaps_69 rfl ?_
                refine zr_iload hE eX11_pairsPerhaps_71 rfl ?_
                refine zr_iload hE eX11_pairsPerhaps_73 rfl ?_
                refine zr_iload hE eX11_pairsPerhaps_75 rfl ?_
                refine zr_callV4 hE eX11_pairsPerhaps_77 lX11_223 (zH10).s0 rfl rfl (by decide) (Nat.le_of_ble_eq_true rfl) (c_X5_spanned zH10 (vpn (show a < 10 by omega) (by decide)) (vpn (show b < 10 by omega) (by decide)) (by rw [nI_clamp (by omega)]; exact hk _ (by omega)) (by rw [nI_clamp (by omega)]; exact hk _ (by omega)) ?_)
                simp only [nI_clamp (show a < 2 ^ 31 by omega), nI_clamp (show b < 2 ^ 31 by omega)]
                refine zr_iconst hE eX11_pairsPerhaps_80 (v := 1) (by decide) ?_
                refine zr_icmp_ne hE eX11_pairsPerhaps_81 (tgt := 87) (by decide) (fun zc81 => ?_) (fun zc81 => ?_)
                · refine zr_iincN hE eX11_pairsPerhaps_87 rfl (by decide) rfl ?_
                  refine zr_goto hE eX11_pairsPerhaps_90 (tgt := 20) (by decide) ?_
                  refine zr_mask hE [true, true, true, true, true, true, false, false] ?_
                  refine ih2 (b + 1) (by omega) (by omega) _ ?_
                  rw [hs2, sumN]
                  first
                    | (have q : a = b := (nI_eq (by omega) (by omega)).mp zc62
                       simp only [q, decide_true, Bool.not_true, Bool.false_and, one, Int32.add_zero]
                       done)
                    | (have q : ¬ a = b := fun e => zc62 (by rw [e])
                       first
                         | have qa : (if a = kn then (0 : Int32) else e) = e := if_neg (fun x => zc35 (by rw [x]))
                         | have qa : (if a = kn then (0 : Int32) else e) = 0 := if_pos ((nI_eq (by omega) (by omega)).mp zc35)
                       first
                         | have qb : (if b = kn then (0 : Int32) else e) = e := if_neg (fun x => zc48 (by rw [x]))
                         | have qb : (if b = kn then (0 : Int32) else e) = 0 := if_pos ((nI_eq (by omega) (by omega)).mp zc48)
                       simp only [q, qa, qb, zc81, decide_false, decide_true, Bool.not_false, Bool.true_and, one, Int32.add_zero, Int32.add_assoc]
                       try rfl)
                · refine zr_iinc hE eX11_pairsPerhaps_84 rfl rfl (by decide) rfl ?_
                  refine zr_iincN hE eX11_pairsPerhaps_87 rfl (by decide) rfl ?_
                  refine zr_goto hE eX11_pairsPerhaps_90 (tgt := 20) (by decide) ?_
                  refine zr_mask hE [true, true, true, true, true, true, false, false] ?_
                  refine ih2 (b + 1) (by omega) (by omega) _ ?_
                  rw [hs2, sumN]
                  first
                    | (have q : a = b := (nI_eq (by omega) (by omega)).mp zc62
                       simp only [q, decide_true, Bool.not_true, Bool.false_and, one, Int32.add_zero]
                       done)
                    | (have q : ¬ a = b := fun e => zc62 (by rw [e])
                       first
                         | have qa : (if a = kn then (0 : Int32) else e) = e := if_neg (fun x => zc35 (by rw [x]))
                         | have qa : (if a = kn then (0 : Int32) else e) = 0 := if_pos ((nI_eq (by omega) (by omega)).mp zc35)
                       first
                         | have qb : (if b = kn then (0 : Int32) else e) = e := if_neg (fun x => zc48 (by rw [x]))
                         | have qb : (if b = kn then (0 : Int32) else e) = 0 := if_pos ((nI_eq (by omega) (by omega)).mp zc48)
                       simp only [q, qa, qb, zc81, decide_false, decide_true, Bool.not_false, Bool.true_and, one, Int32.add_zero, Int32.add_assoc]
                       try rfl)
          · refine zr_iconst hE eX11_pairsPerhaps_38 (v := 0) (by decide) ?_
            refine zr_goto hE eX11_pairsPerhaps_39 (tgt := 43) (by decide) ?_
            refine zr_istore hE eX11_pairsPerhaps_43 (by decide) rfl ?_
            refine zr_iload hE eX11_pairsPerhaps_45 rfl ?_
            refine zr_iload_n hE eX11_pairsPerhaps_47 rfl ?_
            refine zr_icmp_ne hE eX11_pairsPerhaps_48 (tgt := 55) (by decide) (fun zc48 => ?_) (fun zc48 => ?_)
            · refine zr_iload_n hE eX11_pairsPerhaps_55 rfl ?_
              refine zr_istore hE eX11_pairsPerhaps_56 (by decide) rfl ?_
              refine zr_iload hE eX11_pairsPerhaps_58 rfl ?_
              refine zr_iload hE eX11_pairsPerhaps_60 rfl ?_
              refine zr_icmp_eq hE eX11_pairsPerhaps_62 (tgt := 87) (by decide) (fun zc62 => ?_) (fun zc62 => ?_)
              · refine zr_iincN hE eX11_pairsPerhaps_87 rfl (by decide) rfl ?_
                refine zr_goto hE eX11_pairsPerhaps_90 (tgt := 20) (by decide) ?_
                refine zr_mask hE [true, true, true, true, true, true, false, false] ?_
                refine ih2 (b + 1) (by omega) (by omega) _ ?_
                rw [hs2, sumN]
                first
                  | (have q : a = b := (nI_eq (by omega) (by omega)).mp zc62
                     simp only [q, decide_true, Bool.not_true, Bool.false_and, one, Int32.add_zero]
                     done)
                  | (have q : ¬ a = b := fun e => zc62 (by rw [e])
                     first
                       | have qa : (if a = kn then (0 : Int32) else e) = e := if_neg (fun x => zc35 (by rw [x]))
                       | have qa : (if a = kn then (0 : Int32) else e) = 0 := if_pos ((nI_eq (by omega) (by omega)).mp zc35)
                     first
                       | have qb : (if b = kn then (0 : Int32) else e) = e := if_neg (fun x => zc48 (by rw [x]))
                       | have qb : (if b = kn then (0 : Int32) else e) = 0 := if_pos ((nI_eq (by omega) (by omega)).mp zc48)
                     simp only [q, qa, qb, zc81, decide_false, decide_true, Bool.not_false, Bool.true_and, one, Int32.add_zero, Int32.add_assoc]
                     try rfl)
              · refine zr_aload_n hE eX11_pairsPerhaps_65 rfl ?_
                refine zr_getR hE eX11_pairsPerhaps_66 fX11_42 zs0 rfl ?_
                refine zr_iload hE eX11_pairsPerhaps_69 rfl ?_
                refine zr_iload hE eX11_pairsPerhaps_71 rfl ?_
                refine zr_iload hE eX11_pairsPerhaps_73 rfl ?_
                refine zr_iload hE eX11_pairsPerhaps_75 rfl ?_
                refine zr_callV4 hE eX11_pairsPerhaps_77 lX11_223 (zH10).s0 rfl rfl (by decide) (Nat.le_of_ble_eq_true rfl) (c_X5_spanned zH10 (vpn (show a < 10 by omega) (by decide)) (vpn (show b < 10 by omega) (by decide)) (by rw [nI_clamp (by omega)]; exact hk _ (by omega)) (by rw [nI_clamp (by omega)]; exact hk _ (by omega)) ?_)
                simp only [nI_clamp (show a < 2 ^ 31 by omega), nI_clamp (show b < 2 ^ 31 by omega)]
                refine zr_iconst hE eX11_pairsPerhaps_80 (v := 1) (by decide) ?_
                refine zr_icmp_ne hE eX11_pairsPerhaps_81 (tgt := 87) (by decide) (fun zc81 => ?_) (fun zc81 => ?_)
                · refine zr_iincN hE eX11_pairsPerhaps_87 rfl (by decide) rfl ?_
                  refine zr_goto hE eX11_pairsPerhaps_90 (tgt := 20) (by decide) ?_
                  refine zr_mask hE [true, true, true, true, true, true, false, false] ?_
                  refine ih2 (b + 1) (by omega) (by omega) _ ?_
                  rw [hs2, sumN]
                  first
                    | (have q : a = b := (nI_eq (by omega) (by omega)).mp zc62
                       simp only [q, decide_true, Bool.not_true, Bool.false_and, one, Int32.add_zero]
                       done)
                    | (have q : ¬ a = b := fun e => zc62 (by rw [e])
                       first
                         | have qa : (if a = kn then (0 : Int32) else e) = e := if_neg (fun x => zc35 (by rw [x]))
                         | have qa : (if a = kn then (0 : Int32) else e) = 0 := if_pos ((nI_eq (by omega) (by omega)).mp zc35)
                       first
                         | have qb : (if b = kn then (0 : Int32) else e) = e := if_neg (fun x => zc48 (by rw [x]))
                         | have qb : (if b = kn then (0 : Int32) else e) = 0 := if_pos ((nI_eq (by omega) (by omega)).mp zc48)
                       simp only [q, qa, qb, zc81, decide_false, decide_true, Bool.not_false, Bool.true_and, one, Int32.add_zero, Int32.add_assoc]
                       try rfl)
                · refine zr_iinc hE eX11_pairsPerhaps_84 rfl rfl (by decide) rfl ?_
                  refine zr_iincN hE eX11_pairsPerhaps_87 rfl (by decide) rfl ?_
                  refine zr_goto hE eX11_pairsPerhaps_90 (tgt := 20) (by decide) ?_
                  refine zr_mask hE [true, true, true, true, true, true, false, false] ?_
                  refine ih2 (b + 1) (by omega) (by omega) _ ?_
                  rw [hs2, sumN]
                  first
                    | (have q : a = b := (nI_eq (by omega) (by omega)).mp zc62
                       simp only [q, decide_true, Bool.not_true, Bool.false_and, one, Int32.add_zero]
                       done)
                    | (have q : ¬ a = b := fun e => zc62 (by rw [e])
                       first
                         | have qa : (if a = kn then (0 : Int32) else e) = e := if_neg (fun x => zc35 (by rw [x]))
                         | have qa : (if a = kn then (0 : Int32) else e) = 0 := if_pos ((nI_eq (by omega) (by omega)).mp zc35)
                       first
                         | have qb : (if b = kn then (0 : Int32) else e) = e := if_neg (fun x => zc48 (by rw [x]))
                         | have qb : (if b = kn then (0 : Int32) else e) = 0 := if_pos ((nI_eq (by omega) (by omega)).mp zc48)
                       simp only [q, qa, qb, zc81, decide_false, decide_true, Bool.not_false, Bool.true_and, one, Int32.add_zero, Int32.add_assoc]
                       try rfl)
            · refine zr_iconst hE eX11_pairsPerhaps_51 (v := 0) (by decide) ?_
              refine zr_goto hE eX11_pairsPerhaps_52 (tgt := 56) (by decide) ?_
              refine zr_istore hE eX11_pairsPerhaps_56 (by decide) rfl ?_
              refine zr_iload hE eX11_pairsPerhaps_58 rfl ?_
              refine zr_iload hE eX11_pairsPerhaps_60 rfl ?_
              refine zr_icmp_eq hE eX11_pairsPerhaps_62 (tgt := 87) (by decide) (fun zc62 => ?_) (fun zc62 => ?_)
              · refine zr_iincN hE eX11_pairsPerhaps_87 rfl (by decide) rfl ?_
                refine zr_goto hE eX11_pairsPerhaps_90 (tgt := 20) (by decide) ?_
                refine zr_mask hE [true, true, true, true, true, true, false, false] ?_
                refine ih2 (b + 1) (by omega) (by omega) _ ?_
                rw [hs2, sumN]
                first
                  | (have q : a = b := (nI_eq (by omega) (by omega)).mp zc62
                     simp only [q, decide_true, Bool.not_true, Bool.false_and, one, Int32.add_zero]
                     done)
                  | (have q : ¬ a = b := fun e => zc62 (by rw [e])
                     first
                       | have qa : (if a = kn then (0 : Int32) else e) = e := if_neg (fun x => zc35 (by rw [x]))
                       | have qa : (if a = kn then (0 : Int32) else e) = 0 := if_pos ((nI_eq (by omega) (by omega)).mp zc35)
                     first
                       | have qb : (if b = kn then (0 : Int32) else e) = e := if_neg (fun x => zc48 (by rw [x]))
                       | have qb : (if b = kn then (0 : Int32) else e) = 0 := if_pos ((nI_eq (by omega) (by omega)).mp zc48)
                     simp only [q, qa, qb, zc81, decide_false, decide_true, Bool.not_false, Bool.true_and, one, Int32.add_zero, Int32.add_assoc]
                     try rfl)
              · refine zr_aload_n hE eX11_pairsPerhaps_65 rfl ?_
                refine zr_getR hE eX11_pairsPerhaps_66 fX11_42 zs0 rfl ?_
                refine zr_iload hE eX11_pairsPerhaps_69 rfl ?_
                refine zr_iload hE eX11_pairsPerhaps_71 rfl ?_
                refine zr_iload hE eX11_pairsPerhaps_73 rfl ?_
                refine zr_iload hE eX11_pairsPerhaps_75 rfl ?_
                refine zr_callV4 hE eX11_pairsPerhaps_77 lX11_223 (zH10).s0 rfl rfl (by decide) (Nat.le_of_ble_eq_true rfl) (c_X5_spanned zH10 (vpn (show a < 10 by omega) (by decide)) (vpn (show b < 10 by omega) (by decide)) (by rw [nI_clamp (by omega)]; exact hk _ (by omega)) (by rw [nI_clamp (by omega)]; exact hk _ (by omega)) ?_)
                simp only [nI_clamp (show a < 2 ^ 31 by omega), nI_clamp (show b < 2 ^ 31 by omega)]
                refine zr_iconst hE eX11_pairsPerhaps_80 (v := 1) (by decide) ?_
                refine zr_icmp_ne hE eX11_pairsPerhaps_81 (tgt := 87) (by decide) (fun zc81 => ?_) (fun zc81 => ?_)
                · refine zr_iincN hE eX11_pairsPerhaps_87 rfl (by decide) rfl ?_
                  refine zr_goto hE eX11_pairsPerhaps_90 (tgt := 20) (by decide) ?_
                  refine zr_mask hE [true, true, true, true, true, true, false, false] ?_
                  refine ih2 (b + 1) (by omega) (by omega) _ ?_
                  rw [hs2, sumN]
                  first
                    | (have q : a = b := (nI_eq (by omega) (by omega)).mp zc62
                       simp only [q, decide_true, Bool.not_true, Bool.false_and, one, Int32.add_zero]
                       done)
                    | (have q : ¬ a = b := fun e => zc62 (by rw [e])
                       first
                         | have qa : (if a = kn then (0 : Int32) else e) = e := if_neg (fun x => zc35 (by rw [x]))
                         | have qa : (if a = kn then (0 : Int32) else e) = 0 := if_pos ((nI_eq (by omega) (by omega)).mp zc35)
                       first
                         | have qb : (if b = kn then (0 : Int32) else e) = e := if_neg (fun x => zc48 (by rw [x]))
                         | have qb : (if b = kn then (0 : Int32) else e) = 0 := if_pos ((nI_eq (by omega) (by omega)).mp zc48)
                       simp only [q, qa, qb, zc81, decide_false, decide_true, Bool.not_false, Bool.true_and, one, Int32.add_zero, Int32.add_assoc]
                       try rfl)
                · refine zr_iinc hE eX11_pairsPerhaps_84 rfl rfl (by decide) rfl ?_
                  refine zr_iincN hE eX11_pairsPerhaps_87 rfl (by decide) rfl ?_
                  refine zr_goto hE eX11_pairsPerhaps_90 (tgt := 20) (by decide) ?_
                  refine zr_mask hE [true, true, true, true, true, true, false, false] ?_
                  refine ih2 (b + 1) (by omega) (by omega) _ ?_
                  rw [hs2, sumN]
                  first
                    | (have q : a = b := (nI_eq (by omega) (by omega)).mp zc62
                       simp only [q, decide_true, Bool.not_true, Bool.false_and, one, Int32.add_zero]
                       done)
                    | (have q : ¬ a = b := fun e => zc62 (by rw [e])
                       first
                         | have qa : (if a = kn then (0 : Int32) else e) = e := if_neg (fun x => zc35 (by rw [x]))
                         | have qa : (if a = kn then (0 : Int32) else e) = 0 := if_pos ((nI_eq (by omega) (by omega)).mp zc35)
                       first
                         | have qb : (if b = kn then (0 : Int32) else e) = e := if_neg (fun x => zc48 (by rw [x]))
                         | have qb : (if b = kn then (0 : Int32) else e) = 0 := if_pos ((nI_eq (by omega) (by omega)).mp zc48)
                       simp only [q, qa, qb, zc81, decide_false, decide_true, Bool.not_false, Bool.true_and, one, Int32.add_zero, Int32.add_assoc]
                       try rfl)
      refine zr_iload hE eX11_pairsPerhaps_5 rfl ?_
      refine zr_aload_n hE eX11_pairsPerhaps_7 rfl ?_
      refine zr_getR hE eX11_pairsPerhaps_8 fX11_42 zs0 rfl ?_
      refine zr_getI hE eX11_pairsPerhaps_11 fX11_138 (zH10).s0 rfl ?_
      rw [hcw]
      refine zr_kicmp_ge hE eX11_pairsPerhaps_14 (tgt := 99) (by decide) (fun zc14 zd14 => absurd ((nI_ltI (by omega) (by omega)).mpr ha0) zc14) (fun zc14 zd14 => ?_)
      refine zr_iconst hE eX11_pairsPerhaps_17 (v := 0) (by decide) ?_
      refine zr_istore hE eX11_pairsPerhaps_18 (by decide) rfl ?_
      exact loop2 c 0 (Nat.zero_le _) rfl s (by rw [hs, sumN, Int32.add_zero])
  refine zr_iconst hE eX11_pairsPerhaps_0 (v := 0) (by decide) ?_
  refine zr_istore_n hE eX11_pairsPerhaps_1 (by decide) rfl ?_
  refine zr_iconst hE eX11_pairsPerhaps_2 (v := 0) (by decide) ?_
  refine zr_istore hE eX11_pairsPerhaps_3 (by decide) rfl ?_
  exact loop c 0 (Nat.zero_le _) rfl 0 rfl
