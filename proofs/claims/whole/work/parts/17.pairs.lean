/-! pairsIn, allDepths. -/
def sumN (f : Nat → Int32) : Nat → Int32
  | 0 => 0
  | n + 1 => sumN f n + f n
def one (b : Bool) : Int32 := match b with | true => 1 | false => 0
def fPs (B : zBv) (v : Int32) (c : Nat) : Int32 := sumN (fun a => sumN (fun b => one (!decide (a = b) && fLi B a b v)) c) c
def fDs (B : zBv) (c : Nat) : Int32 := sumN (B 4) c
set_option maxHeartbeats 4000000 in
theorem c_X5_allDepths {h c : Nat} {w : ww} {Q : Option Value → ww → Prop} (hh : zH h) (hc : c ≤ 10) (hcw : w h 7 = nI c) (hQ : Q (some (.int (fDs (hB w h) c))) w) : Ct mX5_allDepths 1 [.ref h] w Q := by
  refine Ct.of (by decide) (Nat.le_of_ble_eq_true rfl) (fun _ => Nat.le_of_ble_eq_true rfl) (fun G hR => ?_)
  have hE := hR.1

  have loop : ∀ (k a : Nat), a ≤ c → c - a = k → ∀ s : Int32, s = sumN ((hB w h) 4) a → G 4 [some (.ref h), some (.int s), some (.int (nI a))] [] w := by
    intro k
    induction k with
    | zero =>
      intro a h1 h2 s hs
      have hac : a = c := by omega
      subst hac
      refine zr_iload_n hE eX5_allDepths_4 rfl ?_
      refine zr_aload_n hE eX5_allDepths_5 rfl ?_
      refine zr_getI hE eX5_allDepths_6 fX5_34 (hh).s0 rfl ?_
      rw [hcw]
      refine zr_kicmp_ge hE eX5_allDepths_9 (tgt := 27) (by decide) (fun zc9 zd9 => ?_) (fun zc9 zd9 => absurd zc9 (by rw [nI_ltI (by omega) (by omega)]; omega))
      refine zr_iload_n hE eX5_allDepths_27 rfl ?_
      refine hR.2.1 _ _ _ _ _ _ eX5_allDepths_28 rfl rfl ?_
      refine zq hQ ?_
      rw [hs]; rfl
    | succ k ih =>
      intro a h1 h2 s hs
      have ha0 : a < c := by omega
      refine zr_iload_n hE eX5_allDepths_4 rfl ?_
      refine zr_aload_n hE eX5_allDepths_5 rfl ?_
      refine zr_getI hE eX5_allDepths_6 fX5_34 (hh).s0 rfl ?_
      rw [hcw]
      refine zr_kicmp_ge hE eX5_allDepths_9 (tgt := 27) (by decide) (fun zc9 zd9 => absurd ((nI_ltI (by omega) (by omega)).mpr ha0) zc9) (fun zc9 zd9 => ?_)
      refine zr_iload_n hE eX5_allDepths_12 rfl ?_
      refine zr_aload_n hE eX5_allDepths_13 rfl ?_
      refine zr_getR hE eX5_allDepths_14 fX5_24 (hh).s0 rfl ?_
      refine zr_iload_n hE eX5_allDepths_17 rfl ?_
      refine zr_iald hE eX5_allDepths_18 (hh).s5 (vpn (show a < 10 by omega) (by decide)) ?_
      rw [nI_clamp (by omega)]
      refine zr_iadd hE eX5_allDepths_19 ?_
      refine zr_istore_n hE eX5_allDepths_20 (by decide) rfl ?_
      refine zr_iincN hE eX5_allDepths_21 rfl (by decide) rfl ?_
      refine zr_goto hE eX5_allDepths_24 (tgt := 4) (by decide) ?_
      exact ih (a + 1) (by omega) (by omega) _ (by rw [hs]; rfl)
  refine zr_iconst hE eX5_allDepths_0 (v := 0) (by decide) ?_
  refine zr_istore_n hE eX5_allDepths_1 (by decide) rfl ?_
  refine zr_iconst hE eX5_allDepths_2 (v := 0) (by decide) ?_
  refine zr_istore_n hE eX5_allDepths_3 (by decide) rfl ?_
  exact loop c 0 (Nat.zero_le _) rfl 0 rfl
set_option maxHeartbeats 4000000 in
theorem c_X5_pairsIn {h c : Nat} {w : ww} {Q : Option Value → ww → Prop} (hh : zH h) (hc : c ≤ 10) (hcw : w h 7 = nI c) (hk : ∀ b, b < c → vp_in (w (h+1) b) 8) (hQ : Q (some (.int (fPs (hB w h) (w h 8) c))) w) : Ct mX5_pairsIn 6 [.ref h] w Q := by
  refine Ct.of (by decide) (Nat.le_of_ble_eq_true rfl) (fun _ => Nat.le_of_ble_eq_true rfl) (fun G hR => ?_)
  have hE := hR.1

  have loop : ∀ (k a : Nat), a ≤ c → c - a = k → ∀ s : Int32, s = sumN (fun a => sumN (fun b => one (!decide (a = b) && fLi (hB w h) a b (w h 8))) c) a → G 4 [some (.ref h), some (.int s), some (.int (nI a)), none] [] w := by
    intro k
    induction k with
    | zero =>
      intro a h1 h2 s hs
      have hac : a = c := by omega
      subst hac
      refine zr_iload_n hE eX5_pairsIn_4 rfl ?_
      refine zr_aload_n hE eX5_pairsIn_5 rfl ?_
      refine zr_getI hE eX5_pairsIn_6 fX5_34 (hh).s0 rfl ?_
      rw [hcw]
      refine zr_kicmp_ge hE eX5_pairsIn_9 (tgt := 55) (by decide) (fun zc9 zd9 => ?_) (fun zc9 zd9 => absurd zc9 (by rw [nI_ltI (by omega) (by omega)]; omega))
      refine zr_iload_n hE eX5_pairsIn_55 rfl ?_
      refine hR.2.1 _ _ _ _ _ _ eX5_pairsIn_56 rfl rfl ?_
      refine zq hQ ?_
      rw [hs]; rfl
    | succ k ih =>
      intro a h1 h2 s hs
      have ha0 : a < c := by omega
      have loop2 : ∀ (k2 b : Nat), b ≤ c → c - b = k2 → ∀ s2 : Int32, s2 = sumN (fun a => sumN (fun b => one (!decide (a = b) && fLi (hB w h) a b (w h 8))) c) a + sumN (fun b => one (!decide (a = b) && fLi (hB w h) a b (w h 8))) b → G 14 [some (.ref h), some (.int s2), some (.int (nI a)), some (.int (nI b))] [] w := by
        intro k2
        induction k2 with
        | zero =>
          intro b h3 h4 s2 hs2
          have hbc : b = c := by omega
          subst hbc
          refine zr_iload_n hE eX5_pairsIn_14 rfl ?_
          refine zr_aload_n hE eX5_pairsIn_15 rfl ?_
          refine zr_getI hE eX5_pairsIn_16 fX5_34 (hh).s0 rfl ?_
          rw [hcw]
          refine zr_kicmp_ge hE eX5_pairsIn_19 (tgt := 49) (by decide) (fun zc19 zd19 => ?_) (fun zc19 zd19 => absurd zc19 (by rw [nI_ltI (by omega) (by omega)]; omega))
          refine zr_iincN hE eX5_pairsIn_49 rfl (by decide) rfl ?_
          refine zr_goto hE eX5_pairsIn_52 (tgt := 4) (by decide) ?_
          refine zr_mask hE [true, true, true, false] ?_
          exact ih (a + 1) (by omega) (by omega) _ (by rw [hs2]; rfl)
        | succ k2 ih2 =>
          intro b h3 h4 s2 hs2
          have hb0 : b < c := by omega
          refine zr_iload_n hE eX5_pairsIn_14 rfl ?_
          refine zr_aload_n hE eX5_pairsIn_15 rfl ?_
          refine zr_getI hE eX5_pairsIn_16 fX5_34 (hh).s0 rfl ?_
          rw [hcw]
          refine zr_kicmp_ge hE eX5_pairsIn_19 (tgt := 49) (by decide) (fun zc19 zd19 => absurd ((nI_ltI (by omega) (by omega)).mpr hb0) zc19) (fun zc19 zd19 => ?_)
          refine zr_iload_n hE eX5_pairsIn_22 rfl ?_
          refine zr_iload_n hE eX5_pairsIn_23 rfl ?_
          refine zr_icmp_eq hE eX5_pairsIn_24 (tgt := 43) (by decide) (fun zc24 => ?_) (fun zc24 => ?_)
          · refine zr_iincN hE eX5_pairsIn_43 rfl (by decide) rfl ?_
            refine zr_goto hE eX5_pairsIn_46 (tgt := 14) (by decide) ?_
            refine ih2 (b + 1) (by omega) (by omega) _ ?_
            rw [hs2, sumN]
            first
              | (have q : a = b := (nI_eq (by omega) (by omega)).mp zc24
                 simp only [q, decide_true, Bool.not_true, Bool.false_and, one, Int32.add_zero])
              | (have q : ¬ a = b := fun e => zc24 (by rw [e])
                 simp only [q, decide_false, Bool.not_false, Bool.true_and, zc37, one, Int32.add_zero, Int32.add_assoc]
                 try rfl)
          · refine zr_aload_n hE eX5_pairsIn_27 rfl ?_
            refine zr_iload_n hE eX5_pairsIn_28 rfl ?_
            refine zr_iload_n hE eX5_pairsIn_29 rfl ?_
            refine zr_aload_n hE eX5_pairsIn_30 rfl ?_
            refine zr_getI hE eX5_pairsIn_31 fX5_38 (hh).s0 rfl ?_
            refine zr_callV3 hE eX5_pairsIn_34 lX5_117 (hh).s0 rfl rfl (by decide) (Nat.le_of_ble_eq_true rfl) (c_X5_isIn hh (vpn (show a < 10 by omega) (by decide)) (vpn (show b < 10 by omega) (by decide)) (by rw [nI_clamp (by omega)]; exact hk _ (by omega)) (by rw [nI_clamp (by omega)]; exact hk _ (by omega)) ?_)
            simp only [nI_clamp (show a < 2 ^ 31 by omega), nI_clamp (show b < 2 ^ 31 by omega)]
            refine zr_beq hE eX5_pairsIn_37 (tgt := 43) (by decide) (fun zc37 => ?_) (fun zc37 => ?_)
            · refine zr_iincN hE eX5_pairsIn_43 rfl (by decide) rfl ?_
              refine zr_goto hE eX5_pairsIn_46 (tgt := 14) (by decide) ?_
              refine ih2 (b + 1) (by omega) (by omega) _ ?_
              rw [hs2, sumN]
              first
                | (have q : a = b := (nI_eq (by omega) (by omega)).mp zc24
                   simp only [q, decide_true, Bool.not_true, Bool.false_and, one, Int32.add_zero])
                | (have q : ¬ a = b := fun e => zc24 (by rw [e])
                   simp only [q, decide_false, Bool.not_false, Bool.true_and, zc37, one, Int32.add_zero, Int32.add_assoc]
                   try rfl)
            · refine zr_iinc hE eX5_pairsIn_40 rfl rfl (by decide) rfl ?_
              refine zr_iincN hE eX5_pairsIn_43 rfl (by decide) rfl ?_
              refine zr_goto hE eX5_pairsIn_46 (tgt := 14) (by decide) ?_
              refine ih2 (b + 1) (by omega) (by omega) _ ?_
              rw [hs2, sumN]
              first
                | (have q : a = b := (nI_eq (by omega) (by omega)).mp zc24
                   simp only [q, decide_true, Bool.not_true, Bool.false_and, one, Int32.add_zero])
                | (have q : ¬ a = b := fun e => zc24 (by rw [e])
                   simp only [q, decide_false, Bool.not_false, Bool.true_and, zc37, one, Int32.add_zero, Int32.add_assoc]
                   try rfl)
      refine zr_iload_n hE eX5_pairsIn_4 rfl ?_
      refine zr_aload_n hE eX5_pairsIn_5 rfl ?_
      refine zr_getI hE eX5_pairsIn_6 fX5_34 (hh).s0 rfl ?_
      rw [hcw]
      refine zr_kicmp_ge hE eX5_pairsIn_9 (tgt := 55) (by decide) (fun zc9 zd9 => absurd ((nI_ltI (by omega) (by omega)).mpr ha0) zc9) (fun zc9 zd9 => ?_)
      refine zr_iconst hE eX5_pairsIn_12 (v := 0) (by decide) ?_
      refine zr_istore_n hE eX5_pairsIn_13 (by decide) rfl ?_
      exact loop2 c 0 (Nat.zero_le _) rfl s (by rw [hs, sumN, Int32.add_zero])
  refine zr_iconst hE eX5_pairsIn_0 (v := 0) (by decide) ?_
  refine zr_istore_n hE eX5_pairsIn_1 (by decide) rfl ?_
  refine zr_iconst hE eX5_pairsIn_2 (v := 0) (by decide) ?_
  refine zr_istore_n hE eX5_pairsIn_3 (by decide) rfl ?_
  exact loop c 0 (Nat.zero_le _) rfl 0 rfl
