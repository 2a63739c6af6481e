/-! out, next, breaks, from. -/
theorem fmF_ok {f : Nat → Int32} {cnt : Int32} {li : Nat → Nat → Bool} : ∀ (k i : Nat) (came : Int32), i + k < 1000 → ¬ 0 ≤ fmF f cnt li k i came → ∀ j, i ≤ j → j < i + k → 0 ≤ f j ∧ f j < cnt
  | 0, i, came, _, _, j, h1, h2 => by omega
  | k + 1, i, came, hb, h, j, h1, h2 => by
    rw [fmF] at h
    by_cases q : ¬ (0 ≤ f i ∧ f i < cnt) ∨ (came >>> (f i &&& 31)) &&& 1 = 1
    · rw [if_pos q] at h
      exact absurd (nI_pos' (by omega)) h
    · rw [if_neg q] at h
      by_cases q2 : 0 < i ∧ li (f i).toNatClampNeg (f (i - 1)).toNatClampNeg = false
      · rw [if_pos q2] at h
        exact absurd (nI_pos' (by omega)) h
      · rw [if_neg q2] at h
        by_cases q3 : j = i
        · subst q3
          exact Decidable.not_not.mp (fun x => q (Or.inl x))
        · exact fmF_ok k (i + 1) _ (by omega) h j (by omega) (by omega)
def ouF (f : Nat → Int32) (li : Nat → Nat → Bool) : Nat → Int32 → Int32
  | 0, t => t
  | m + 1, t => if 0 < m ∧ li (f m).toNatClampNeg (f (m - 1)).toNatClampNeg = false then t else ouF f li m (t + 1)
def otR (w : ww) (d v : Int32) : Int32 := if fIs d 0 7 = true ∧ fIs v 0 9 = true then (if rfB w d = 0 then (if w (fSh d) 5 = 0 ∨ 0 ≤ fmW w d then -13 else ouF (w (fSh d + 1)) (fun a b => fLi (hB w 10) a b v) (w (fSh d) 5).toNatClampNeg 0) else rfB w d) else -1
theorem rfB_0 {w : ww} {d : Int32} (h : rfB w d = 0) : rfS w d 2 = 0 := by
  unfold rfB at h
  split at h
  · exact absurd h (by decide)
  · exact h
set_option maxHeartbeats 4000000 in
theorem out_lp {G : zG} {w : ww} {Q : Option Value → ww → Prop} {d v r : Int32} {sf xn c : Nat} (hR : zR RX11 cX11_out 7 7 (some .int) Q G) (hN : Now w c) (xsf : zSf sf) (xn1 : xn ≤ 100) (xn2 : w sf 5 = nI xn) (xok : ∀ j, j < xn → 0 ≤ w (sf + 1) j ∧ w (sf + 1) j < w 10 7) (hQ : Q (some (.int r)) w) :
    ∀ (m : Nat) (t : Int32), m ≤ xn → ouF (w (sf + 1)) (fun a b => fLi (hB w 10) a b v) m t = r → G 68 [some (.ref 0), some (.int d), some (.int v), none, some (.ref sf), some (.int t), some (.int (nI m - 1))] [] w := by
  have hE := hR.1
  intro m
  induction m with
  | zero =>
    intro t h1 hr
    refine zr_iload hE eX11_out_68 rfl ?_
    refine zr_kif_lt hE eX11_out_70 (tgt := 117) (by decide) (fun zc70 zd70 => ?_) (fun zc70 zd70 => absurd zc70 (by decide))
    refine zr_iload hE eX11_out_117 rfl ?_
    refine hR.2.1 _ _ _ _ _ _ eX11_out_119 rfl rfl ?_
    rw [← hr] at hQ
    exact hQ
  | succ m ih =>
    intro t h1 hr
    refine zr_iload hE eX11_out_68 rfl ?_
    simp only [nI_pred]
    refine zr_kif_lt hE eX11_out_70 (tgt := 117) (by decide) (fun zc70 zd70 => absurd (nI_pos' (show m < 2 ^ 31 by omega)) zc70) (fun zc70 zd70 => ?_)
    refine zr_iload hE eX11_out_73 rfl ?_
    refine zr_kif_le hE eX11_out_75 (tgt := 108) (by decide) (fun zc75 zd75 => ?_) (fun zc75 zd75 => ?_)
    · refine zr_iinc hE eX11_out_108 rfl rfl (by decide) rfl ?_
      refine zr_iinc hE eX11_out_111 rfl rfl (by decide) rfl ?_
      refine zr_goto hE eX11_out_114 (tgt := 68) (by decide) ?_
      have q : ¬ 0 < m := fun q => zc75 (by rw [show (0 : Int32) = nI 0 from rfl, nI_ltI (by decide) (by omega)]; exact q)
      rw [zdec]
      exact ih _ (by omega) (by rw [← hr]; symm; rw [ouF, if_neg (fun x => q x.1)]; rfl)
    · refine zr_aload_n hE eX11_out_78 rfl ?_
      refine zr_getR hE eX11_out_79 fX11_42 zs0 rfl ?_
      refine zr_aload hE eX11_out_82 rfl ?_
      refine zr_iload hE eX11_out_84 rfl ?_
      refine zr_callV1 hE eX11_out_86 lX11_217 (xsf).s0 rfl rfl (by decide) (Nat.le_of_ble_eq_true rfl) (c_X10_at xsf (by rw [xn2, show (100 : Int32) = nI 100 from rfl, nI_leI (by omega) (by decide)]; exact xn1) ?_)
      rw [sAt_lt xn2 xn1 (by omega)]
      refine zr_aload hE eX11_out_89 rfl ?_
      refine zr_iload hE eX11_out_91 rfl ?_
      refine zr_iconst hE eX11_out_93 (v := 1) (by decide) ?_
      refine zr_isub hE eX11_out_94 ?_
      obtain ⟨m0, rfl⟩ : ∃ m0, m = m0 + 1 := ⟨m - 1, by
        have q := zc75
        rw [show (0 : Int32) = nI 0 from rfl, nI_ltI (by decide) (by omega)] at q
        omega⟩
      simp only [nI_pred]
      refine zr_callV1 hE eX11_out_95 lX11_217 (xsf).s0 rfl rfl (by decide) (Nat.le_of_ble_eq_true rfl) (c_X10_at xsf (by rw [xn2, show (100 : Int32) = nI 100 from rfl, nI_leI (by omega) (by decide)]; exact xn1) ?_)
      rw [sAt_lt xn2 xn1 (by omega)]
      refine zr_iload_n hE eX11_out_98 rfl ?_
      refine zr_callV3 hE eX11_out_99 lX11_151 (zH10).s0 rfl rfl (by decide) (Nat.le_of_ble_eq_true rfl) (c_X5_isIn zH10 (has_of hN (xok (m0 + 1) (by omega))).1 (has_of hN (xok m0 (by omega))).1 (has_of hN (xok (m0 + 1) (by omega))).2.1 (has_of hN (xok m0 (by omega))).2.1 ?_)
      refine zr_bne hE eX11_out_102 (tgt := 108) (by decide) (fun zc102 => ?_) (fun zc102 => ?_)
      · refine zr_iinc hE eX11_out_108 rfl rfl (by decide) rfl ?_
        refine zr_iinc hE eX11_out_111 rfl rfl (by decide) rfl ?_
        refine zr_goto hE eX11_out_114 (tgt := 68) (by decide) ?_
        rw [zdec]
        exact ih _ (by omega) (by rw [← hr]; symm; rw [ouF, if_neg (fun x => by rw [Nat.add_sub_cancel, zc102] at x; exact absurd x.2 (by decide))]; rfl)
      · refine zr_iload hE eX11_out_105 rfl ?_
        refine hR.2.1 _ _ _ _ _ _ eX11_out_107 rfl rfl ?_
        rw [← hr, ouF, if_pos ⟨by omega, by rw [Nat.add_sub_cancel]; exact zc102⟩] at hQ
        exact hQ
set_option maxHeartbeats 4000000 in
theorem c_X11_out {c : Nat} {d v : Int32} {w : ww} {Q : Option Value → ww → Prop} (hN : Now w c) (hS : Sok w d) (hQ : Q (some (.int (otR w d v))) w)  : Ct mX11_out 7 [.ref 0, .int d, .int v] w Q := by
  refine Ct.of (by decide) (Nat.le_of_ble_eq_true rfl) (fun _ => Nat.le_of_ble_eq_true rfl) (fun G hR => ?_)
  have hE := hR.1
  refine zr_iload_n hE eX11_out_0 rfl ?_
  refine zr_callS1 hE eX11_out_1 lX11_117 (by decide) (Nat.le_of_ble_eq_true rfl) (c_X11_isShelf ?_)
  refine zr_beq hE eX11_out_4 (tgt := 14) (by decide) (fun zc4 => ?_) (fun zc4 => ?_)
  · refine zr_iconst hE eX11_out_14 (v := -1) (by decide) ?_
    refine hR.2.1 _ _ _ _ _ _ eX11_out_15 rfl rfl ?_
    unfold otR at hQ
    rw [if_neg (fun xq => by have := xq.1; rw [zc4] at this; cases this)] at hQ
    exact hQ
  · refine zr_iload_n hE eX11_out_7 rfl ?_
    refine zr_callS1 hE eX11_out_8 lX11_141 (by decide) (Nat.le_of_ble_eq_true rfl) (c_X11_isWarmth ?_)
    refine zr_bne hE eX11_out_11 (tgt := 16) (by decide) (fun zc11 => ?_) (fun zc11 => ?_)
    · refine zr_aload_n hE eX11_out_16 rfl ?_
      refine zr_iload_n hE eX11_out_17 rfl ?_
      refine zr_callV1 hE eX11_out_18 lX11_70 zs0 rfl rfl (by decide) (Nat.le_of_ble_eq_true rfl) (c_X11_bytesRefusal ?_)
      refine zr_istore_n hE eX11_out_21 (by decide) rfl ?_
      refine zr_iload_n hE eX11_out_22 rfl ?_
      refine zr_if_eq hE eX11_out_23 (tgt := 28) (by decide) (fun zc23 => ?_) (fun zc23 => ?_)
      · refine zr_aload_n hE eX11_out_28 rfl ?_
        refine zr_getR hE eX11_out_29 fX11_61 zs0 rfl ?_
        refine zr_iload_n hE eX11_out_32 rfl ?_
        refine zr_shelves hE eX11_out_33 (fIs_vp (rfS_is (rfB_0 zc23))) ?_
        show G _ _ (.ref (fSh d) :: _) _
        refine zr_astore hE eX11_out_34 (by decide) rfl ?_
        obtain ⟨xn, xn1, xn2⟩ := hS (rfB_0 zc23)
        have xe : fmF (w (fSh d + 1)) (w 10 7) (fun a b => fLi (hB w 10) a b (w 10 8)) xn 0 0 = fmW w d := by unfold fmW; rw [xn2, nI_clamp (by omega)]
        have xK : ∀ (Q2 : Option Value → ww → Prop), Q2 (some (.int (fmW w d))) w → Ct mX11_firstMisplaced 6 [.ref 0, .ref (fSh d)] w Q2 := by
          intro Q2 xh
          refine c_X11_firstMisplaced (n := xn) (c := c) (fSh_sf (rfS_is (rfB_0 zc23))) xn2 xn1 (by have := hN.1; omega) hN.2.1 hN.2.2 ?_
          rw [xe]; exact xh
        refine zr_aload hE eX11_out_36 rfl ?_
        refine zr_getI hE eX11_out_38 fX11_211 ((fSh_sf (rfS_is (rfB_0 zc23)))).s0 rfl ?_
        refine zr_if_eq hE eX11_out_41 (tgt := 53) (by decide) (fun zc41 => ?_) (fun zc41 => ?_)
        · refine zr_bipush hE eX11_out_53 (v := -13) (by decide) ?_
          refine hR.2.1 _ _ _ _ _ _ eX11_out_55 rfl rfl ?_
          unfold otR at hQ
          rw [if_pos ⟨zc4, zc11⟩, if_pos zc23, if_pos (Or.inl zc41)] at hQ
          exact hQ
        · refine zr_aload_n hE eX11_out_44 rfl ?_
          refine zr_aload hE eX11_out_45 rfl ?_
          refine zr_callV1 hE eX11_out_47 lX11_214 zs0 rfl rfl (by decide) (Nat.le_of_ble_eq_true rfl) (xK _ ?_)
          refine zr_kif_lt hE eX11_out_50 (tgt := 56) (by decide) (fun zc50 zd50 => ?_) (fun zc50 zd50 => ?_)
          · refine zr_iconst hE eX11_out_56 (v := 0) (by decide) ?_
            refine zr_istore hE eX11_out_57 (by decide) rfl ?_
            refine zr_aload hE eX11_out_59 rfl ?_
            refine zr_getI hE eX11_out_61 fX11_211 ((fSh_sf (rfS_is (rfB_0 zc23)))).s0 rfl ?_
            refine zr_iconst hE eX11_out_64 (v := 1) (by decide) ?_
            refine zr_isub hE eX11_out_65 ?_
            refine zr_istore hE eX11_out_66 (by decide) rfl ?_
            unfold otR at hQ
            rw [if_pos ⟨zc4, zc11⟩, if_pos zc23, if_neg (fun x => x.elim zc41 zc50)] at hQ
            rw [xn2] at hQ ⊢
            rw [nI_clamp (by omega)] at hQ
            refine zr_mask hE [true, true, true, false, true, true, true] ?_
            refine out_lp hR hN (fSh_sf (rfS_is (rfB_0 zc23))) xn1 xn2 (fun j hj => ?_) hQ xn 0 (Nat.le_refl _) rfl
            rw [← xe] at zc50
            exact fmF_ok xn 0 0 (by omega) zc50 j (Nat.zero_le _) (by omega)
          · refine zr_bipush hE eX11_out_53 (v := -13) (by decide) ?_
            refine hR.2.1 _ _ _ _ _ _ eX11_out_55 rfl rfl ?_
            unfold otR at hQ
            rw [if_pos ⟨zc4, zc11⟩, if_pos zc23, if_pos (Or.inr zc50)] at hQ
            exact hQ
      · refine zr_iload_n hE eX11_out_26 rfl ?_
        refine hR.2.1 _ _ _ _ _ _ eX11_out_27 rfl rfl ?_
        unfold otR at hQ
        rw [if_pos ⟨zc4, zc11⟩, if_neg zc23] at hQ
        exact hQ
    · refine zr_iconst hE eX11_out_14 (v := -1) (by decide) ?_
      refine hR.2.1 _ _ _ _ _ _ eX11_out_15 rfl rfl ?_
      unfold otR at hQ
      rw [if_neg (fun xq => by have := xq.2; rw [zc11] at this; cases this)] at hQ
      exact hQ

def nxF (f : Nat → Int32) (c : Nat) : Nat → Nat → Int32 → Int32 → Int32 × Int32
  | 0, _, b, s => (b, s)
  | k + 1, i, b, s => if b = -4 ∨ f i < s then nxF f c k (i + 1) (nI i) (f i) else nxF f c k (i + 1) b s
set_option maxHeartbeats 4000000 in
theorem next_lp {G : zG} {w : ww} {Q : Option Value → ww → Prop} {e k0 : Int32} {c : Nat} {r : Int32 × Int32} (hR : zR RX11 cX11_next 7 7 (some .int) Q G) (hN : Now w c) (hQ2 : Q (some (.int (if k0 = 0 then r.1 else r.2))) w) :
    ∀ (k i : Nat) (b s : Int32), i ≤ c → c - i = k → nxF (fun i => fPp (hB w 10) (w 10 8) e i c) c k i b s = r → G 31 [some (.ref 0), some (.int e), some (.int k0), some (.int b), some (.int s), some (.int (nI i)), none] [] w := by
  have hE := hR.1
  have hc9 := hN.1
  intro k
  induction k with
  | zero =>
    intro i b s h1 h2 hr
    have hic : i = c := by omega
    subst hic
    refine zr_iload hE eX11_next_31 rfl ?_
    refine zr_aload_n hE eX11_next_33 rfl ?_
    refine zr_getR hE eX11_next_34 fX11_42 zs0 rfl ?_
    refine zr_getI hE eX11_next_37 fX11_138 (zH10).s0 rfl ?_
    rw [hN.2.1]
    refine zr_kicmp_ge hE eX11_next_40 (tgt := 78) (by decide) (fun zc40 zd40 => ?_) (fun zc40 zd40 => absurd zc40 (by rw [nI_ltI (by omega) (by omega)]; omega))
    refine zr_iload_n hE eX11_next_78 rfl ?_
    refine zr_if_ne hE eX11_next_79 (tgt := 86) (by decide) (fun zc79 => ?_) (fun zc79 => ?_)
    · refine zr_iload hE eX11_next_86 rfl ?_
      refine hR.2.1 _ _ _ _ _ _ eX11_next_88 rfl rfl ?_
      rw [if_neg zc79, ← hr] at hQ2
      exact hQ2
    · refine zr_iload_n hE eX11_next_82 rfl ?_
      refine zr_goto hE eX11_next_83 (tgt := 88) (by decide) ?_
      refine hR.2.1 _ _ _ _ _ _ eX11_next_88 rfl rfl ?_
      rw [if_pos zc79, ← hr] at hQ2
      exact hQ2
  | succ k ih =>
    intro i b s h1 h2 hr
    have xi0 : i < c := by omega
    refine zr_iload hE eX11_next_31 rfl ?_
    refine zr_aload_n hE eX11_next_33 rfl ?_
    refine zr_getR hE eX11_next_34 fX11_42 zs0 rfl ?_
    refine zr_getI hE eX11_next_37 fX11_138 (zH10).s0 rfl ?_
    rw [hN.2.1]
    refine zr_kicmp_ge hE eX11_next_40 (tgt := 78) (by decide) (fun zc40 zd40 => absurd ((nI_ltI (by omega) (by omega)).mpr xi0) zc40) (fun zc40 zd40 => ?_)
    refine zr_aload_n hE eX11_next_43 rfl ?_
    refine zr_iload hE eX11_next_44 rfl ?_
    refine zr_iload_n hE eX11_next_46 rfl ?_
    refine zr_callV2 hE eX11_next_47 lX11_227 zs0 rfl rfl (by decide) (Nat.le_of_ble_eq_true rfl) (c_X11_pairsPerhaps (kn := i) (c := c) (by omega) (by omega) hN.2.1 hN.2.2 ?_)
    refine zr_istore hE eX11_next_50 (by decide) rfl ?_
    refine zr_iload_n hE eX11_next_52 rfl ?_
    refine zr_bipush hE eX11_next_53 (v := -4) (by decide) ?_
    refine zr_icmp_eq hE eX11_next_55 (tgt := 65) (by decide) (fun zc55 => ?_) (fun zc55 => ?_)
    · refine zr_iload hE eX11_next_65 rfl ?_
      refine zr_istore_n hE eX11_next_67 (by decide) rfl ?_
      refine zr_iload hE eX11_next_68 rfl ?_
      refine zr_istore hE eX11_next_70 (by decide) rfl ?_
      refine zr_iincN hE eX11_next_72 rfl (by decide) rfl ?_
      refine zr_goto hE eX11_next_75 (tgt := 31) (by decide) ?_
      refine zr_mask hE [true, true, true, true, true, true, false] ?_
      exact ih (i + 1) _ _ (by omega) (by omega) (by rw [← hr, nxF, if_pos (Or.inl zc55)])
    · refine zr_iload hE eX11_next_58 rfl ?_
      refine zr_iload hE eX11_next_60 rfl ?_
      refine zr_kicmp_ge hE eX11_next_62 (tgt := 72) (by decide) (fun zc62 zd62 => ?_) (fun zc62 zd62 => ?_)
      · refine zr_iincN hE eX11_next_72 rfl (by decide) rfl ?_
        refine zr_goto hE eX11_next_75 (tgt := 31) (by decide) ?_
        refine zr_mask hE [true, true, true, true, true, true, false] ?_
        exact ih (i + 1) _ _ (by omega) (by omega) (by rw [← hr, nxF, if_neg (fun x => x.elim zc55 zc62)])
      · refine zr_iload hE eX11_next_65 rfl ?_
        refine zr_istore_n hE eX11_next_67 (by decide) rfl ?_
        refine zr_iload hE eX11_next_68 rfl ?_
        refine zr_istore hE eX11_next_70 (by decide) rfl ?_
        refine zr_iincN hE eX11_next_72 rfl (by decide) rfl ?_
        refine zr_goto hE eX11_next_75 (tgt := 31) (by decide) ?_
        refine zr_mask hE [true, true, true, true, true, true, false] ?_
        exact ih (i + 1) _ _ (by omega) (by omega) (by rw [← hr, nxF, if_pos (Or.inr zc62)])
def nxR (B : zBv) (v e : Int32) (c : Nat) : Int32 × Int32 := nxF (fun i => fPp B v e i c) c c 0 (-4) (-4)
set_option maxHeartbeats 4000000 in
theorem c_X11_next {c : Nat} {e k : Int32} {w : ww} {Q : Option Value → ww → Prop} (hN : Now w c) (hQ1 : ¬ (fIs e 0 9 = true ∧ fIs k 0 1 = true) → Q (some (.int (-1))) w) (hQ2 : fIs e 0 9 = true ∧ fIs k 0 1 = true → Q (some (.int (if k = 0 then (nxR (hB w 10) (w 10 8) e c).1 else (nxR (hB w 10) (w 10 8) e c).2))) w)  : Ct mX11_next 7 [.ref 0, .int e, .int k] w Q := by
  refine Ct.of (by decide) (Nat.le_of_ble_eq_true rfl) (fun _ => Nat.le_of_ble_eq_true rfl) (fun G hR => ?_)
  have hE := hR.1
  refine zr_iload_n hE eX11_next_0 rfl ?_
  refine zr_iconst hE eX11_next_1 (v := 0) (by decide) ?_
  refine zr_bipush hE eX11_next_2 (v := 9) (by decide) ?_
  refine zr_callS3 hE eX11_next_4 lX11_123 (by decide) (Nat.le_of_ble_eq_true rfl) (c_X11_isWithin ?_)
  refine zr_beq hE eX11_next_7 (tgt := 19) (by decide) (fun zc7 => ?_) (fun zc7 => ?_)
  · refine zr_iconst hE eX11_next_19 (v := -1) (by decide) ?_
    refine hR.2.1 _ _ _ _ _ _ eX11_next_20 rfl rfl ?_
    exact hQ1 (fun xq => by have x1 : fIs e 0 9 = false := zc7; rw [x1] at xq; exact absurd xq.1 (by decide))
  · refine zr_iload_n hE eX11_next_10 rfl ?_
    refine zr_iconst hE eX11_next_11 (v := 0) (by decide) ?_
    refine zr_iconst hE eX11_next_12 (v := 1) (by decide) ?_
    refine zr_callS3 hE eX11_next_13 lX11_123 (by decide) (Nat.le_of_ble_eq_true rfl) (c_X11_isWithin ?_)
    refine zr_bne hE eX11_next_16 (tgt := 21) (by decide) (fun zc16 => ?_) (fun zc16 => ?_)
    · refine zr_bipush hE eX11_next_21 (v := -4) (by decide) ?_
      refine zr_istore_n hE eX11_next_23 (by decide) rfl ?_
      refine zr_bipush hE eX11_next_24 (v := -4) (by decide) ?_
      refine zr_istore hE eX11_next_26 (by decide) rfl ?_
      refine zr_iconst hE eX11_next_28 (v := 0) (by decide) ?_
      refine zr_istore hE eX11_next_29 (by decide) rfl ?_
      exact next_lp hR hN (hQ2 ⟨zc7, zc16⟩) c 0 (-4) (-4) (Nat.zero_le _) rfl rfl
    · refine zr_iconst hE eX11_next_19 (v := -1) (by decide) ?_
      refine hR.2.1 _ _ _ _ _ _ eX11_next_20 rfl rfl ?_
      exact hQ1 (fun xq => by have x1 : fIs k 0 1 = false := zc16; rw [x1] at xq; exact absurd xq.2 (by decide))

theorem nI_mulN (a b : Nat) : nI a * nI b = nI (a * b) := (Int32.ofNat_mul a b).symm
theorem nI_div {a b : Nat} (ha : a < 2 ^ 31) (hb : b < 2 ^ 31) (h0 : 0 < b) : nI a / nI b = nI (a / b) := by
  apply Int32.toInt_inj.mp
  have h1 : a / b < 2 ^ 31 := Nat.lt_of_le_of_lt (Nat.div_le_self a b) ha
  rw [Int32.toInt_div, nI_toInt ha, nI_toInt hb, nI_toInt h1]
  have e : ((a : Int).tdiv (b : Int)) = ((a / b : Nat) : Int) := by rw [Int.ofNat_tdiv]
  rw [e]
  generalize a / b = q at h1
  have hq : ((q : Int)).bmod (2 ^ 32) = (q : Int) := Int.bmod_eq_of_le (by simp only [Nat.reducePow]; omega) (by simp only [Nat.reducePow]; omega)
  exact hq
theorem bkD_lt {c : Nat} (hc : c ≤ 9) (h0 : 0 < c) (s : Int32) : ∃ d, d < c ∧ bkD (nI c) s = nI d := by
  obtain ⟨x, hx, hxe⟩ : ∃ x, x < 2 ^ 31 ∧ s &&& 2147483647 = nI x := by
    obtain ⟨t, ht, rfl⟩ : ∃ t, t < 2 ^ 32 ∧ s = nI t := ⟨s.toBitVec.toNat, s.toBitVec.isLt, Int32.toBitVec_inj.mp (by show _ = BitVec.ofNat 32 _; simp)⟩
    refine ⟨t &&& 2147483647, Nat.lt_of_le_of_lt Nat.and_le_right (by decide), ?_⟩
    rw [show (2147483647 : Int32) = nI 2147483647 from rfl, nb_and]
  unfold bkD
  rw [hxe, show (65536 : Int32) = nI 65536 from rfl, nI_div hx (by decide) (by decide)]
  have hq : x / 65536 < 2 ^ 31 := Nat.lt_of_le_of_lt (Nat.div_le_self _ _) hx
  generalize x / 65536 = q at hq
  rw [nI_div hq (by omega) h0, nI_mulN]
  refine ⟨q % c, Nat.mod_lt _ h0, ?_⟩
  have e := Nat.div_add_mod q c
  have e1 := nI_add (q % c) (q / c * c)
  rw [show q % c + q / c * c = q by rw [Nat.mul_comm]; omega] at e1
  rw [← e1, Int32.add_sub_cancel]
theorem bkF_lt {c : Nat} (hc : c ≤ 9) (h0 : 0 < c) : ∀ (k : Nat) (s : Int32) (t0 : Nat), t0 < 2 ^ c → ∃ t, t < 2 ^ c ∧ bkF (nI c) k s (nI t0) = nI t
  | 0, s, t0, h => ⟨t0, h, rfl⟩
  | k + 1, s, t0, h => by
    obtain ⟨d, hd, hde⟩ := bkD_lt hc h0 (s * 1103515245 + 12345)
    rw [bkF, hde, nb_sh1 d (by omega), nb_or]
    exact bkF_lt hc h0 k _ _ (or_lt h (Nat.pow_lt_pow_right (by decide) hd))
def bkT (c : Nat) (n : Nat) (z : Int32) : Nat := (bkF (nI c) n z 0).toNatClampNeg
theorem bkT_ok {c n : Nat} {z : Int32} (hc : c ≤ 9) (h0 : 0 < c) : bkF (nI c) n z 0 = nI (bkT c n z) ∧ bkT c n z < 2 ^ c := by
  obtain ⟨t, ht, he⟩ := bkF_lt hc h0 n z 0 (Nat.pow_pos (by decide))
  have h9 := p29 hc
  have he2 : bkF (nI c) n z 0 = nI t := he
  unfold bkT
  rw [he2, nI_clamp (by omega)]
  exact ⟨rfl, ht⟩
theorem fIs40 {n : Int32} (h : fIs n 1 40 = true) : ∃ m, m ≤ 40 ∧ n = nI m := by
  simp only [fIs, Bool.and_eq_true, decide_eq_true_eq] at h
  obtain ⟨h1, h2⟩ := h
  obtain ⟨a, ha, rfl⟩ := nI_of (x := n) (fun q => absurd (Int32.lt_of_le_of_lt h1 q) (by decide))
  rw [show (40 : Int32) = nI 40 from rfl, nI_leI ha (by decide)] at h2
  exact ⟨a, h2, rfl⟩
set_option maxHeartbeats 4000000 in
theorem c_X11_breaks {c : Nat} {n z k : Int32} {w : ww} {Q : Option Value → ww → Prop} (hN : Now w c) (hQ1 : ¬ (fIs n 1 40 = true ∧ fIs k 0 1 = true) → Q (some (.int (-1))) w) (hQ2 : fIs n 1 40 = true ∧ fIs k 0 1 = true → c = 0 → Q (some (.int (-3))) w) (hQ3 : fIs n 1 40 = true ∧ fIs k 0 1 = true → 0 < c → ∀ m, m ≤ 40 → n = nI m → ∀ u, SC w u → Q (some (.int (if k = 0 then nI (pop (bkT c m z) 10) else nI (pop (fLg (hB w 10) (w 10 8) c (nDif (fM c) (bkT c m z))) 10)))) u)  : Ct mX11_breaks 8 [.ref 0, .int n, .int z, .int k] w Q := by
  refine Ct.of (by decide) (Nat.le_of_ble_eq_true rfl) (fun _ => Nat.le_of_ble_eq_true rfl) (fun G hR => ?_)
  have hE := hR.1
  refine zr_iload_n hE eX11_breaks_0 rfl ?_
  refine zr_iconst hE eX11_breaks_1 (v := 1) (by decide) ?_
  refine zr_bipush hE eX11_breaks_2 (v := 40) (by decide) ?_
  refine zr_callS3 hE eX11_breaks_4 lX11_123 (by decide) (Nat.le_of_ble_eq_true rfl) (c_X11_isWithin ?_)
  refine zr_beq hE eX11_breaks_7 (tgt := 19) (by decide) (fun zc7 => ?_) (fun zc7 => ?_)
  · refine zr_iconst hE eX11_breaks_19 (v := -1) (by decide) ?_
    refine hR.2.1 _ _ _ _ _ _ eX11_breaks_20 rfl rfl ?_
    exact hQ1 (fun xq => by have x1 : fIs n 1 40 = false := zc7; rw [x1] at xq; exact absurd xq.1 (by decide))
  · refine zr_iload_n hE eX11_breaks_10 rfl ?_
    refine zr_iconst hE eX11_breaks_11 (v := 0) (by decide) ?_
    refine zr_iconst hE eX11_breaks_12 (v := 1) (by decide) ?_
    refine zr_callS3 hE eX11_breaks_13 lX11_123 (by decide) (Nat.le_of_ble_eq_true rfl) (c_X11_isWithin ?_)
    refine zr_bne hE eX11_breaks_16 (tgt := 21) (by decide) (fun zc16 => ?_) (fun zc16 => ?_)
    · refine zr_aload_n hE eX11_breaks_21 rfl ?_
      refine zr_getR hE eX11_breaks_22 fX11_42 zs0 rfl ?_
      refine zr_getI hE eX11_breaks_25 fX11_138 (zH10).s0 rfl ?_
      rw [hN.2.1]
      refine zr_if_ne hE eX11_breaks_28 (tgt := 34) (by decide) (fun zc28 => ?_) (fun zc28 => ?_)
      · have xc0 : 0 < c := Nat.pos_of_ne_zero (fun q => zc28 (by rw [q]; rfl))
        have hc9 := hN.1
        obtain ⟨xm, xm1, rfl⟩ := fIs40 zc7
        have xb := bkT_ok (n := xm) (z := z) hN.1 xc0
        have xr := hQ3 ⟨zc7, zc16⟩ xc0 xm xm1 rfl
        refine zr_aload_n hE eX11_breaks_34 rfl ?_
        refine zr_iload_n hE eX11_breaks_35 rfl ?_
        refine zr_iload_n hE eX11_breaks_36 rfl ?_
        refine zr_callV2 hE eX11_breaks_37 lX11_230 zs0 rfl rfl (by decide) (Nat.le_of_ble_eq_true rfl) (c_X11_brokenBy (n := xm) (by omega) (by rw [hN.2.1, show (0 : Int32) = nI 0 from rfl, nI_ltI (by decide) (by omega)]; exact xc0) ?_)
        rw [hN.2.1, xb.1]
        refine zr_istore hE eX11_breaks_40 (by decide) rfl ?_
        refine zr_iload_n hE eX11_breaks_42 rfl ?_
        refine zr_if_ne hE eX11_breaks_43 (tgt := 52) (by decide) (fun zc43 => ?_) (fun zc43 => ?_)
        · refine zr_aload_n hE eX11_breaks_52 rfl ?_
          refine zr_getR hE eX11_breaks_53 fX11_55 zs0 rfl ?_
          refine zr_aload_n hE eX11_breaks_56 rfl ?_
          refine zr_getR hE eX11_breaks_57 fX11_42 zs0 rfl ?_
          refine zr_callV1 hE eX11_breaks_60 lX11_160 zs31 rfl rfl (by decide) (Nat.le_of_ble_eq_true rfl) (c_find hN (fun xu xF => ?_))
          refine zr_aload_n hE eX11_breaks_63 rfl ?_
          refine zr_getR hE eX11_breaks_64 fX11_55 zs0 rfl ?_
          refine zr_aload_n hE eX11_breaks_67 rfl ?_
          refine zr_getR hE eX11_breaks_68 fX11_42 zs0 rfl ?_
          refine zr_callV0 hE eX11_breaks_71 lX11_233 (zH10).s0 rfl rfl (by decide) (Nat.le_of_ble_eq_true rfl) (c_X5_all zH10 ?_)
          refine zr_iload hE eX11_breaks_74 rfl ?_
          refine zr_iconst hE eX11_breaks_76 (v := -1) (by decide) ?_
          refine zr_ixor hE eX11_breaks_77 ?_
          skip
          refine zr_iand hE eX11_breaks_78 ?_
          have x7 : xu 10 7 = nI c := by rw [xF.1 10 (by unfold Scr; omega)]; exact hN.2.1
          rw [x7, nb_all c (by omega), nb_dif]
          show G _ _ (.int (nI (nDif (fM c) (bkT c xm z))) :: _) _
          refine zr_callV1 hE eX11_breaks_79 lX11_164 zs31 rfl rfl (by decide) (Nat.le_of_ble_eq_true rfl) (c_X7_longestOf (t := nDif (fM c) (bkT c xm z)) (F := fFo (hB w 10) (w 10 8) c) (Nat.lt_of_le_of_lt (nDif_le _ _) (fM_lt hN.1).1) xF.2.2.2.1 (fFo_len hN.1) (fun xe xhe => Nat.lt_of_lt_of_le (fFo_lt xhe) (p29 hN.1)) ?_)
          rw [xF.lg]
          refine zr_callS1 hE eX11_breaks_82 lX11_167 (by decide) (Nat.le_of_ble_eq_true rfl) (c_bc (by have := fLg_lt (B := hB w 10) (v := w 10 8) (c := c) (t := nDif (fM c) (bkT c xm z)); have := p29 hN.1; omega) ?_)
          refine hR.2.1 _ _ _ _ _ _ eX11_breaks_85 rfl rfl ?_
          have xr2 := xr xu xF.1
          rw [if_neg zc43] at xr2
          exact xr2
        · refine zr_iload hE eX11_breaks_46 rfl ?_
          refine zr_callS1 hE eX11_breaks_48 lX11_167 (by decide) (Nat.le_of_ble_eq_true rfl) (c_bc (by have := p29 hN.1; omega) ?_)
          refine hR.2.1 _ _ _ _ _ _ eX11_breaks_51 rfl rfl ?_
          have xr2 := xr w (SC.rf w)
          rw [if_pos zc43] at xr2
          exact xr2
      · refine zr_bipush hE eX11_breaks_31 (v := -3) (by decide) ?_
        refine hR.2.1 _ _ _ _ _ _ eX11_breaks_33 rfl rfl ?_
        exact hQ2 ⟨zc7, zc16⟩ ((nI_0i (by have := hN.1; omega)).mp zc28)
    · refine zr_iconst hE eX11_breaks_19 (v := -1) (by decide) ?_
      refine hR.2.1 _ _ _ _ _ _ eX11_breaks_20 rfl rfl ?_
      exact hQ1 (fun xq => by have x1 : fIs k 0 1 = false := zc16; rw [x1] at xq; exact absurd xq.2 (by decide))

