/-! The least sum; chains; the longest nest with one bowl more. -/
def lowN (s : Nat) : Nat := (nI s &&& -(nI s)).toNatClampNeg
theorem lowN_ok : ∀ s, s < 512 → s ≠ 0 → nI s &&& -(nI s) = nI (lowN s) ∧ lowN s < 512 ∧ s ^^^ lowN s < s := by decide +kernel
def subL (r : Nat) : Nat → Nat → List Nat
  | 0, _ => []
  | f + 1, p => p :: (if p = 0 then [] else subL r f ((p - 1) &&& r))
def bstF (C Lf : Nat → Int32) (low rest : Nat) : List Nat → Int32 → Int32
  | [], b => b
  | p :: l, b => bstF C Lf low rest l (mn b (C (p ||| low) + Lf (rest ^^^ p)))
def lsT (C : Nat → Int32) : Nat → Nat → Int32
  | 0, _ => 0
  | n + 1, s => if s = n + 1 then bstF C (lsT C n) (lowN (n + 1)) ((n + 1) ^^^ lowN (n + 1)) (subL ((n + 1) ^^^ lowN (n + 1)) 1024 ((n + 1) ^^^ lowN (n + 1))) 1000000 else lsT C n s
theorem xor_sub {p r : Nat} (h : p &&& r = p) : r ^^^ p ≤ r := by
  have e : r ^^^ p = r &&& (r ^^^ p) := by
    apply Nat.eq_of_testBit_eq
    intro i
    have hp := congrArg (fun z => Nat.testBit z i) h
    simp only [Nat.testBit_and, Nat.testBit_xor] at hp ⊢
    cases h1 : p.testBit i <;> cases h2 : r.testBit i <;> simp_all
  rw [e]
  exact Nat.and_le_left
theorem and_and_self2 (a r : Nat) : (a &&& r) &&& r = a &&& r := by rw [Nat.and_assoc, Nat.and_self]
set_option maxHeartbeats 4000000 in
theorem ls_in {G : zG} (hE : zE RX7 cX7_leastSum 6 2 G) {s low rest : Nat} {u : ww} {C Lf : Nat → Int32} (hlow : low < 512) (hrest : rest < s) (hs : s < 512) (hC : ∀ p, u 35 p = C p) (hL : ∀ t, t < s → u 36 t = Lf t) {r : Int32}
    (kk : G 84 [some (.ref 31), some (.int (nI s)), some (.int (nI low)), some (.int (nI rest)), some (.int r), some (.int (-1))] [] u) :
    ∀ (f p : Nat) (b : Int32), p < f → p < 512 → p &&& rest = p → bstF C Lf low rest (subL rest f p) b = r → G 33 [some (.ref 31), some (.int (nI s)), some (.int (nI low)), some (.int (nI rest)), some (.int b), some (.int (nI p))] [] u := by
  intro f
  induction f with
  | zero => intro p b h1; omega
  | succ f ih =>
    intro p b h1 hp9 hpr hr
    have hpl : p ||| low < 512 := or_lt (n := 9) hp9 hlow
    have hxs := xor_sub hpr
    refine zr_iload hE eX7_leastSum_33 rfl ?_
    refine zr_kif_lt hE eX7_leastSum_35 (tgt := 84) (by decide) (fun zc35 zd35 => absurd (nI_pos' (show p < 2 ^ 31 by omega)) zc35) (fun zc35 zd35 => ?_)
    refine zr_iload hE eX7_leastSum_38 rfl ?_
    refine zr_aload_n hE eX7_leastSum_40 rfl ?_
    refine zr_getR hE eX7_leastSum_41 fX7_21 zs31 rfl ?_
    refine zr_iload hE eX7_leastSum_44 rfl ?_
    refine zr_iload_n hE eX7_leastSum_46 rfl ?_
    refine zr_ior hE eX7_leastSum_47 ?_
    simp only [nb_or]
    refine zr_iald hE eX7_leastSum_48 zs35 (vpn hpl (by decide)) ?_
    simp only [nI_clamp (show p ||| low < 2 ^ 31 by omega), hC]
    refine zr_aload_n hE eX7_leastSum_49 rfl ?_
    refine zr_getR hE eX7_leastSum_50 fX7_24 zs31 rfl ?_
    refine zr_iload_n hE eX7_leastSum_53 rfl ?_
    refine zr_iload hE eX7_leastSum_54 rfl ?_
    refine zr_ixor hE eX7_leastSum_56 ?_
    simp only [nb_xor]
    refine zr_iald hE eX7_leastSum_57 zs36 (vpn (show rest ^^^ p < 512 by omega) (by decide)) ?_
    simp only [nI_clamp (show rest ^^^ p < 2 ^ 31 by omega), hL (rest ^^^ p) (by omega)]
    refine zr_iadd hE eX7_leastSum_58 ?_
    refine zr_mmin hE eX7_leastSum_59 lmX7_42 (by decide) (Nat.le_of_ble_eq_true rfl) ?_
    refine zr_istore hE eX7_leastSum_62 (by decide) rfl ?_
    refine zr_iload hE eX7_leastSum_64 rfl ?_
    refine zr_if_ne hE eX7_leastSum_66 (tgt := 73) (by decide) (fun zc66 => ?_) (fun zc66 => ?_)
    · obtain ⟨p0, rfl⟩ : ∃ p0, p = p0 + 1 := ⟨p - 1, by have : p ≠ 0 := fun e => zc66 (by rw [e]; rfl)
                                                        omega⟩
      refine zr_iload hE eX7_leastSum_73 rfl ?_
      refine zr_iconst hE eX7_leastSum_75 (v := 1) (by decide) ?_
      refine zr_isub hE eX7_leastSum_76 ?_
      refine zr_iload_n hE eX7_leastSum_77 rfl ?_
      rw [nI_pred]
      refine zr_iand hE eX7_leastSum_78 ?_
      try rw [nb_and]
      refine zr_istore hE eX7_leastSum_79 (by decide) rfl ?_
      refine zr_goto hE eX7_leastSum_81 (tgt := 33) (by decide) ?_
      refine ih (p0 &&& rest) _ (Nat.lt_of_le_of_lt Nat.and_le_left (by omega)) (Nat.lt_of_le_of_lt Nat.and_le_left (by omega)) (and_and_self2 _ _) ?_
      rw [← hr, subL, bstF, if_neg (by omega)]
      rfl
    · refine zr_iconst hE eX7_leastSum_69 (v := -1) (by decide) ?_
      refine zr_goto hE eX7_leastSum_70 (tgt := 79) (by decide) ?_
      try rw [nb_and]
      refine zr_istore hE eX7_leastSum_79 (by decide) rfl ?_
      refine zr_goto hE eX7_leastSum_81 (tgt := 33) (by decide) ?_
      have hp0 : p = 0 := (nI_0i (by omega)).mp zc66
      refine zr_iload hE eX7_leastSum_33 rfl ?_
      refine zr_kif_lt hE eX7_leastSum_35 (tgt := 84) (by decide) (fun _ _ => ?_) (fun zc35 zd35 => absurd zc35 (by decide))
      rw [← hr, subL, bstF, if_pos hp0, bstF] at kk
      exact kk
set_option maxHeartbeats 4000000 in
theorem c_X7_leastSum {n : Nat} {w : ww} {Q : Option Value → ww → Prop} (hn : n < 512) (h10 : w 31 10 = nI n) (hQ : ∀ u : ww, (∀ p, p ≠ 36 → u p = w p) → Q (some (.int (lsT (w 35) n n))) u) : Ct mX7_leastSum 2 [.ref 31] w Q := by
  refine Ct.of (by decide) (Nat.le_of_ble_eq_true rfl) (fun _ => Nat.le_of_ble_eq_true rfl) (fun G hR => ?_)
  have hE := hR.1
  have loop : ∀ (k s : Nat) (u : ww), s ≤ n → n - s = k → (∀ p, p ≠ 36 → u p = w p) → (∀ t, t ≤ s → u 36 t = lsT (w 35) s t) → G 9 [some (.ref 31), some (.int (nI (s + 1))), none, none, none, none] [] u := by
    intro k
    induction k with
    | zero =>
      intro s u h1 h2 hof hla
      refine zr_iload_n hE eX7_leastSum_9 rfl ?_
      refine zr_aload_n hE eX7_leastSum_10 rfl ?_
      refine zr_getI hE eX7_leastSum_11 fX7_51 zs31 rfl ?_
      rw [hof 31 (by decide), h10]
      refine zr_kicmp_gt hE eX7_leastSum_14 (tgt := 98) (by decide) (fun zc14 zd14 => ?_) (fun zc14 zd14 => absurd zc14 (by rw [nI_leI (by omega) (by omega)]; omega))
      refine zr_aload_n hE eX7_leastSum_98 rfl ?_
      refine zr_getR hE eX7_leastSum_99 fX7_24 zs31 rfl ?_
      refine zr_aload_n hE eX7_leastSum_102 rfl ?_
      refine zr_getI hE eX7_leastSum_103 fX7_51 zs31 rfl ?_
      rw [hof 31 (by decide), h10]
      refine zr_iald hE eX7_leastSum_106 zs36 (vpn (show n < 512 by omega) (by decide)) ?_
      refine hR.2.1 _ _ _ _ _ _ eX7_leastSum_107 rfl rfl ?_
      refine zq (hQ u hof) ?_
      rw [nI_clamp (by omega), hla n (by omega), show s = n by omega]
    | succ k ih =>
      intro s u h1 h2 hof hla
      obtain ⟨e1, e2, e3⟩ := lowN_ok (s + 1) (by omega) (by omega)
      have kk2 : G 84 [some (.ref 31), some (.int (nI (s + 1))), some (.int (nI (lowN (s + 1)))), some (.int (nI ((s + 1) ^^^ lowN (s + 1)))), some (.int (lsT (w 35) (s + 1) (s + 1))), some (.int (-1))] [] u := by
        refine zr_aload_n hE eX7_leastSum_84 rfl ?_
        refine zr_getR hE eX7_leastSum_85 fX7_24 zs31 rfl ?_
        refine zr_iload_n hE eX7_leastSum_88 rfl ?_
        refine zr_iload hE eX7_leastSum_89 rfl ?_
        refine zr_iast hE eX7_leastSum_91 zs36 (vpn (show s + 1 < 512 by omega) (by decide)) ?_
        refine zr_iincN hE eX7_leastSum_92 rfl (by decide) rfl ?_
        refine zr_goto hE eX7_leastSum_95 (tgt := 9) (by decide) ?_
        refine zr_mask hE [true, true, false, false, false, false] ?_
        refine ih (s + 1) _ (by omega) (by omega) (fun p hp => ?_) (fun t ht => ?_)
        · funext z; rw [wu_ne hp]; exact congrFun (hof p hp) z
        · rw [nI_clamp (by omega)]
          by_cases q : t = s + 1
          · subst q; rw [wu_eq]
          · rw [wu_nj q, hla t (by omega), lsT, if_neg q]
      refine zr_iload_n hE eX7_leastSum_9 rfl ?_
      refine zr_aload_n hE eX7_leastSum_10 rfl ?_
      refine zr_getI hE eX7_leastSum_11 fX7_51 zs31 rfl ?_
      rw [hof 31 (by decide), h10]
      refine zr_kicmp_gt hE eX7_leastSum_14 (tgt := 98) (by decide) (fun zc14 zd14 => absurd ((nI_leI (by omega) (by omega)).mpr (by omega)) zc14) (fun zc14 zd14 => ?_)
      refine zr_iload_n hE eX7_leastSum_17 rfl ?_
      refine zr_iload_n hE eX7_leastSum_18 rfl ?_
      refine zr_ineg hE eX7_leastSum_19 ?_
      refine zr_iand hE eX7_leastSum_20 ?_
      rw [e1]
      refine zr_istore_n hE eX7_leastSum_21 (by decide) rfl ?_
      refine zr_iload_n hE eX7_leastSum_22 rfl ?_
      refine zr_iload_n hE eX7_leastSum_23 rfl ?_
      refine zr_ixor hE eX7_leastSum_24 ?_
      rw [nb_xor]
      refine zr_istore_n hE eX7_leastSum_25 (by decide) rfl ?_
      refine zr_ldc hE eX7_leastSum_26 hX7_98 ?_
      refine zr_istore hE eX7_leastSum_28 (by decide) rfl ?_
      refine zr_iload_n hE eX7_leastSum_30 rfl ?_
      refine zr_istore hE eX7_leastSum_31 (by decide) rfl ?_
      refine ls_in hE (C := w 35) (Lf := lsT (w 35) s) e2 e3 (by omega) (fun p => by rw [hof 35 (by decide)]) (fun t ht => hla t (by omega)) (r := lsT (w 35) (s + 1) (s + 1)) ?_ 1024 _ _ (by omega) (by omega) (Nat.and_self _) (by rw [lsT, if_pos rfl])
      exact kk2
  refine zr_aload_n hE eX7_leastSum_0 rfl ?_
  refine zr_getR hE eX7_leastSum_1 fX7_24 zs31 rfl ?_
  refine zr_iconst hE eX7_leastSum_4 (v := 0) (by decide) ?_
  refine zr_iconst hE eX7_leastSum_5 (v := 0) (by decide) ?_
  refine zr_iast hE eX7_leastSum_6 zs36 (by unfold vp_in; decide) ?_
  refine zr_iconst hE eX7_leastSum_7 (v := 1) (by decide) ?_
  refine zr_istore_n hE eX7_leastSum_8 (by decide) rfl ?_
  refine loop n 0 _ (Nat.zero_le _) rfl (fun p hp => by funext z; rw [wu_ne hp]) (fun t ht => ?_)
  have ht0 : t = 0 := by omega
  subst ht0
  exact wu_eq
def liN (A : Int32) (b : Nat) : Nat → (Nat → Int32) → Nat → Int32
  | 0, f => f
  | n + 1, f => if iBit A n then upd (liN A b n f) n (mx (liN A b n f n) (liN A b n f b + 1)) else liN A b n f
def loN (A : Int32) (b : Nat) : Nat → (Nat → Int32) → Nat → Int32
  | 0, f => f
  | n + 1, f => if iBit A n then upd (loN A b n f) b (mx (loN A b n f b) (loN A b n f n + 1)) else loN A b n f
theorem wu_upd (u : ww) (o i : Nat) (v : Int32) : wu u o i v o = upd (u o) i v := by funext z; simp [wu, upd]
set_option maxHeartbeats 4000000 in
theorem c_X7_lengthenInward {b c : Nat} {w : ww} {Q : Option Value → ww → Prop} (hb : b < 9) (hc : c ≤ 9) (h9 : w 31 9 = nI c) (hQ : ∀ u : ww, (∀ p, p ≠ 38 → u p = w p) → u 38 = liN (w 37 b) b c (w 38) → Q none u) : Ct mX7_lengthenInward 2 [.ref 31, .int (nI b)] w Q := by
  refine Ct.of (by decide) (Nat.le_of_ble_eq_true rfl) (fun _ => Nat.le_of_ble_eq_true rfl) (fun G hR => ?_)
  have hE := hR.1
  have loop : ∀ (k j : Nat) (u : ww), j ≤ c → c - j = k → (∀ p, p ≠ 38 → u p = w p) → u 38 = liN (w 37 b) b j (w 38) → G 2 [some (.ref 31), some (.int (nI b)), some (.int (nI j))] [] u := by
    intro k
    induction k with
    | zero =>
      intro j u h1 h2 hof hf
      have hjc : j = c := by omega
      subst hjc
      refine zr_iload_n hE eX7_lengthenInward_2 rfl ?_
      refine zr_aload_n hE eX7_lengthenInward_3 rfl ?_
      refine zr_getI hE eX7_lengthenInward_4 fX7_48 zs31 rfl ?_
      rw [hof 31 (by decide), h9]
      refine zr_kicmp_ge hE eX7_lengthenInward_7 (tgt := 53) (by decide) (fun zc7 zd7 => ?_) (fun zc7 zd7 => absurd zc7 (by rw [nI_ltI (by omega) (by omega)]; omega))
      refine hR.2.2.2 _ _ _ _ eX7_lengthenInward_53 rfl ?_
      exact hQ u hof hf
    | succ k ih =>
      intro j u h1 h2 hof hf
      have hj0 : j < c := by omega
      refine zr_iload_n hE eX7_lengthenInward_2 rfl ?_
      refine zr_aload_n hE eX7_lengthenInward_3 rfl ?_
      refine zr_getI hE eX7_lengthenInward_4 fX7_48 zs31 rfl ?_
      rw [hof 31 (by decide), h9]
      refine zr_kicmp_ge hE eX7_lengthenInward_7 (tgt := 53) (by decide) (fun zc7 zd7 => absurd ((nI_ltI (by omega) (by omega)).mpr hj0) zc7) (fun zc7 zd7 => ?_)
      refine zr_aload_n hE eX7_lengthenInward_10 rfl ?_
      refine zr_getR hE eX7_lengthenInward_11 fX7_27 zs31 rfl ?_
      refine zr_iload_n hE eX7_lengthenInward_14 rfl ?_
      refine zr_iald hE eX7_lengthenInward_15 zs37 (by first | exact vpn (show b < 9 by omega) (by decide) | exact vpn (show j < 9 by omega) (by decide)) ?_
      simp only [nI_clamp (show b < 2 ^ 31 by omega), hof 37 (show 37 ≠ 38 by decide)]
      refine zr_iload_n hE eX7_lengthenInward_16 rfl ?_
      refine zr_ishr hE eX7_lengthenInward_17 ?_
      refine zr_iconst hE eX7_lengthenInward_18 (v := 1) (by decide) ?_
      refine zr_iand hE eX7_lengthenInward_19 ?_
      refine zr_iconst hE eX7_lengthenInward_20 (v := 1) (by decide) ?_
      refine zr_icmp_ne hE eX7_lengthenInward_21 (tgt := 47) (by decide) (fun zc21 => ?_) (fun zc21 => ?_)
      · refine zr_iincN hE eX7_lengthenInward_47 rfl (by decide) rfl ?_
        refine zr_goto hE eX7_lengthenInward_50 (tgt := 2) (by decide) ?_
        have q : iBit (w 37 b) j = false := decide_eq_false zc21
        exact ih (j + 1) u (by omega) (by omega) hof (by rw [liN, q]; exact hf)
      · refine zr_aload_n hE eX7_lengthenInward_24 rfl ?_
        refine zr_getR hE eX7_lengthenInward_25 fX7_30 zs31 rfl ?_
        refine zr_iload_n hE eX7_lengthenInward_28 rfl ?_
        refine zr_aload_n hE eX7_lengthenInward_29 rfl ?_
        refine zr_getR hE eX7_lengthenInward_30 fX7_30 zs31 rfl ?_
        refine zr_iload_n hE eX7_lengthenInward_33 rfl ?_
        refine zr_iald hE eX7_lengthenInward_34 zs38 (by first | exact vpn (show b < 9 by omega) (by decide) | exact vpn (show j < 9 by omega) (by decide)) ?_
        refine zr_aload_n hE eX7_lengthenInward_35 rfl ?_
        refine zr_getR hE eX7_lengthenInward_36 fX7_30 zs31 rfl ?_
        refine zr_iload_n hE eX7_lengthenInward_39 rfl ?_
        refine zr_iald hE eX7_lengthenInward_40 zs38 (by first | exact vpn (show b < 9 by omega) (by decide) | exact vpn (show j < 9 by omega) (by decide)) ?_
        refine zr_iconst hE eX7_lengthenInward_41 (v := 1) (by decide) ?_
        refine zr_iadd hE eX7_lengthenInward_42 ?_
        refine zr_mmax hE eX7_lengthenInward_43 lmX7_106 (by decide) (Nat.le_of_ble_eq_true rfl) ?_
        refine zr_iast hE eX7_lengthenInward_46 zs38 (by first | exact vpn (show b < 9 by omega) (by decide) | exact vpn (show j < 9 by omega) (by decide)) ?_
        refine zr_iincN hE eX7_lengthenInward_47 rfl (by decide) rfl ?_
        refine zr_goto hE eX7_lengthenInward_50 (tgt := 2) (by decide) ?_
        have q : iBit (w 37 b) j = true := decide_eq_true zc21
        refine ih (j + 1) _ (by omega) (by omega) (fun p hp => ?_) ?_
        · funext z; rw [wu_ne hp]; exact congrFun (hof p hp) z
        · simp only [nI_clamp (show b < 2 ^ 31 by omega), nI_clamp (show j < 2 ^ 31 by omega)]
          rw [wu_upd, hf, liN, if_pos q]
  refine zr_iconst hE eX7_lengthenInward_0 (v := 0) (by decide) ?_
  refine zr_istore_n hE eX7_lengthenInward_1 (by decide) rfl ?_
  exact loop c 0 w (Nat.zero_le _) rfl (fun _ _ => rfl) rfl
set_option maxHeartbeats 4000000 in
theorem c_X7_lengthenOutward {b c : Nat} {w : ww} {Q : Option Value → ww → Prop} (hb : b < 9) (hc : c ≤ 9) (h9 : w 31 9 = nI c) (hQ : ∀ u : ww, (∀ p, p ≠ 39 → u p = w p) → u 39 = loN (w 37 b) b c (w 39) → Q none u) : Ct mX7_lengthenOutward 2 [.ref 31, .int (nI b)] w Q := by
  refine Ct.of (by decide) (Nat.le_of_ble_eq_true rfl) (fun _ => Nat.le_of_ble_eq_true rfl) (fun G hR => ?_)
  have hE := hR.1
  have loop : ∀ (k j : Nat) (u : ww), j ≤ c → c - j = k → (∀ p, p ≠ 39 → u p = w p) → u 39 = loN (w 37 b) b j (w 39) → G 2 [some (.ref 31), some (.int (nI b)), some (.int (nI j))] [] u := by
    intro k
    induction k with
    | zero =>
      intro j u h1 h2 hof hf
      have hjc : j = c := by omega
      subst hjc
      refine zr_iload_n hE eX7_lengthenOutward_2 rfl ?_
      refine zr_aload_n hE eX7_lengthenOutward_3 rfl ?_
      refine zr_getI hE eX7_lengthenOutward_4 fX7_48 zs31 rfl ?_
      rw [hof 31 (by decide), h9]
      refine zr_kicmp_ge hE eX7_lengthenOutward_7 (tgt := 53) (by decide) (fun zc7 zd7 => ?_) (fun zc7 zd7 => absurd zc7 (by rw [nI_ltI (by omega) (by omega)]; omega))
      refine hR.2.2.2 _ _ _ _ eX7_lengthenOutward_53 rfl ?_
      exact hQ u hof hf
    | succ k ih =>
      intro j u h1 h2 hof hf
      have hj0 : j < c := by omega
      refine zr_iload_n hE eX7_lengthenOutward_2 rfl ?_
      refine zr_aload_n hE eX7_lengthenOutward_3 rfl ?_
      refine zr_getI hE eX7_lengthenOutward_4 fX7_48 zs31 rfl ?_
      rw [hof 31 (by decide), h9]
      refine zr_kicmp_ge hE eX7_lengthenOutward_7 (tgt := 53) (by decide) (fun zc7 zd7 => absurd ((nI_ltI (by omega) (by omega)).mpr hj0) zc7) (fun zc7 zd7 => ?_)
      refine zr_aload_n hE eX7_lengthenOutward_10 rfl ?_
      refine zr_getR hE eX7_lengthenOutward_11 fX7_27 zs31 rfl ?_
      refine zr_iload_n hE eX7_lengthenOutward_14 rfl ?_
      refine zr_iald hE eX7_lengthenOutward_15 zs37 (by first | exact vpn (show b < 9 by omega) (by decide) | exact vpn (show j < 9 by omega) (by decide)) ?_
      simp only [nI_clamp (show b < 2 ^ 31 by omega), hof 37 (show 37 ≠ 39 by decide)]
      refine zr_iload_n hE eX7_lengthenOutward_16 rfl ?_
      refine zr_ishr hE eX7_lengthenOutward_17 ?_
      refine zr_iconst hE eX7_lengthenOutward_18 (v := 1) (by decide) ?_
      refine zr_iand hE eX7_lengthenOutward_19 ?_
      refine zr_iconst hE eX7_lengthenOutward_20 (v := 1) (by decide) ?_
      refine zr_icmp_ne hE eX7_lengthenOutward_21 (tgt := 47) (by decide) (fun zc21 => ?_) (fun zc21 => ?_)
      · refine zr_iincN hE eX7_lengthenOutward_47 rfl (by decide) rfl ?_
        refine zr_goto hE eX7_lengthenOutward_50 (tgt := 2) (by decide) ?_
        have q : iBit (w 37 b) j = false := decide_eq_false zc21
        exact ih (j + 1) u (by omega) (by omega) hof (by rw [loN, q]; exact hf)
      · refine zr_aload_n hE eX7_lengthenOutward_24 rfl ?_
        refine zr_getR hE eX7_lengthenOutward_25 fX7_33 zs31 rfl ?_
        refine zr_iload_n hE eX7_lengthenOutward_28 rfl ?_
        refine zr_aload_n hE eX7_lengthenOutward_29 rfl ?_
        refine zr_getR hE eX7_lengthenOutward_30 fX7_33 zs31 rfl ?_
        refine zr_iload_n hE eX7_lengthenOutward_33 rfl ?_
        refine zr_iald hE eX7_lengthenOutward_34 zs39 (by first | exact vpn (show b < 9 by omega) (by decide) | exact vpn (show j < 9 by omega) (by decide)) ?_
        refine zr_aload_n hE eX7_lengthenOutward_35 rfl ?_
        refine zr_getR hE eX7_lengthenOutward_36 fX7_33 zs31 rfl ?_
        refine zr_iload_n hE eX7_lengthenOutward_39 rfl ?_
        refine zr_iald hE eX7_lengthenOutward_40 zs39 (by first | exact vpn (show b < 9 by omega) (by decide) | exact vpn (show j < 9 by omega) (by decide)) ?_
        refine zr_iconst hE eX7_lengthenOutward_41 (v := 1) (by decide) ?_
        refine zr_iadd hE eX7_lengthenOutward_42 ?_
        refine zr_mmax hE eX7_lengthenOutward_43 lmX7_106 (by decide) (Nat.le_of_ble_eq_true rfl) ?_
        refine zr_iast hE eX7_lengthenOutward_46 zs39 (by first | exact vpn (show b < 9 by omega) (by decide) | exact vpn (show j < 9 by omega) (by decide)) ?_
        refine zr_iincN hE eX7_lengthenOutward_47 rfl (by decide) rfl ?_
        refine zr_goto hE eX7_lengthenOutward_50 (tgt := 2) (by decide) ?_
        have q : iBit (w 37 b) j = true := decide_eq_true zc21
        refine ih (j + 1) _ (by omega) (by omega) (fun p hp => ?_) ?_
        · funext z; rw [wu_ne hp]; exact congrFun (hof p hp) z
        · simp only [nI_clamp (show b < 2 ^ 31 by omega), nI_clamp (show j < 2 ^ 31 by omega)]
          rw [wu_upd, hf, loN, if_pos q]
  refine zr_iconst hE eX7_lengthenOutward_0 (v := 0) (by decide) ?_
  refine zr_istore_n hE eX7_lengthenOutward_1 (by decide) rfl ?_
  exact loop c 0 w (Nat.zero_le _) rfl (fun _ _ => rfl) rfl
def inN : Nat → (Nat → Int32) → Nat → Int32
  | 0, f => f
  | n + 1, f => upd (inN n f) n 1
def liA (A : Nat → Int32) (c : Nat) : List Nat → (Nat → Int32) → Nat → Int32
  | [], f => f
  | b :: l, f => liA A c l (liN (A b) b c f)
def loA (A : Nat → Int32) (c : Nat) : List Nat → (Nat → Int32) → Nat → Int32
  | [], f => f
  | b :: l, f => loN (A b) b c (loA A c l f)
set_option maxHeartbeats 4000000 in
theorem c_X7_findChains {h c : Nat} {l : List Nat} {w : ww} {Q : Option Value → ww → Prop} (hh : zH h) (hc : c ≤ 9) (h9 : w 31 9 = nI c) (hl : l.length = c) (hlm : ∀ y ∈ l, y < c) (hord : ∀ i, i < c → w (h+6) i = nI (l.getD i 0)) (hQ : ∀ u : ww, (∀ p, p ≠ 38 → p ≠ 39 → u p = w p) → u 38 = liA (w 37) c l (inN c (w 38)) → u 39 = loA (w 37) c l (inN c (w 39)) → Q none u) : Ct mX7_findChains 3 [.ref 31, .ref h] w Q := by
  refine Ct.of (by decide) (Nat.le_of_ble_eq_true rfl) (fun _ => Nat.le_of_ble_eq_true rfl) (fun G hR => ?_)
  have hE := hR.1
  have hh24 : h ≤ 24 := by rcases hh with rfl | rfl | rfl <;> omega
  have kk2 : ∀ (u : ww), (∀ p, p ≠ 38 → p ≠ 39 → u p = w p) → u 38 = liA (w 37) c l (inN c (w 38)) → u 39 = inN c (w 39) → G 63 [some (.ref 31), some (.ref h), some (.int (nI c - 1))] [] u := by
    intro u0 hof0 hf10 hf20
    have loop : ∀ (m : Nat) (u : ww), m ≤ c → (∀ p, p ≠ 38 → p ≠ 39 → u p = w p) → u 38 = liA (w 37) c l (inN c (w 38)) → u 39 = loA (w 37) c (l.drop m) (inN c (w 39)) → G 63 [some (.ref 31), some (.ref h), some (.int (nI m - 1))] [] u := by
      intro m
      induction m with
      | zero =>
        intro u h1 hof hf1 hf2
        refine zr_iload_n hE eX7_findChains_63 rfl ?_
        refine zr_kif_lt hE eX7_findChains_64 (tgt := 83) (by decide) (fun zc64 zd64 => ?_) (fun zc64 zd64 => absurd zc64 (by decide))
        refine hR.2.2.2 _ _ _ _ eX7_findChains_83 rfl ?_
        exact hQ u hof hf1 hf2
      | succ m ih =>
        intro u h1 hof hf1 hf2
        obtain ⟨b, hbe⟩ : ∃ b, l.getD m 0 = b := ⟨_, rfl⟩
        have hb : b < 9 := by
          rw [← hbe, List.getD_eq_getElem?_getD, List.getElem?_eq_getElem (by omega)]
          have := hlm _ (List.getElem_mem (l := l) (n := m) (by omega))
          exact Nat.lt_of_lt_of_le this hc
        refine zr_iload_n hE eX7_findChains_63 rfl ?_
        rw [nI_pred]
        refine zr_kif_lt hE eX7_findChains_64 (tgt := 83) (by decide) (fun zc64 zd64 => absurd (nI_pos' (show m < 2 ^ 31 by omega)) zc64) (fun zc64 zd64 => ?_)
        refine zr_aload_n hE eX7_findChains_67 rfl ?_
        refine zr_aload_n hE eX7_findChains_68 rfl ?_
        refine zr_getR hE eX7_findChains_69 fX7_60 (hh).s0 rfl ?_
        refine zr_iload_n hE eX7_findChains_72 rfl ?_
        refine zr_iald hE eX7_findChains_73 (hh).s6 (vpn (show m < 10 by omega) (by decide)) ?_
        simp only [nI_clamp (show m < 2 ^ 31 by omega), hof (h+6) (by omega) (by omega), hord m (by omega), hbe]
        refine zr_callV1 hE eX7_findChains_74 lX7_103 zs31 rfl rfl (by decide) (Nat.le_of_ble_eq_true rfl) (c_X7_lengthenOutward (b := b) hb hc (by rw [hof 31 (by decide) (by decide)]; exact h9) (fun u2 hof2 hf3 => ?_))
        refine zr_iinc hE eX7_findChains_77 rfl rfl (by decide) rfl ?_
        refine zr_goto hE eX7_findChains_80 (tgt := 63) (by decide) ?_
        rw [zdec]
        refine ih u2 (by omega) (fun p hp1 hp2 => by rw [hof2 p hp2]; exact hof p hp1 hp2) (by rw [hof2 38 (by decide)]; exact hf1) ?_
        rw [drop_cons (by omega), hbe, loA, hf3, hof 37 (by decide) (by decide), hf2]
    exact loop c u0 (Nat.le_refl _) hof0 hf10 (by rw [List.drop_eq_nil_of_le (by omega)]; exact hf20)
  have kk1 : ∀ (x : Int32) (u : ww), (∀ p, p ≠ 38 → p ≠ 39 → u p = w p) → u 38 = inN c (w 38) → u 39 = inN c (w 39) → G 32 [some (.ref 31), some (.ref h), some (.int 0)] [] u := by
    intro x u0 hof0 hf10 hf20
    have loop : ∀ (k j : Nat) (u : ww), j ≤ c → c - j = k → (∀ p, p ≠ 38 → p ≠ 39 → u p = w p) → liA (w 37) c (l.drop j) (u 38) = liA (w 37) c l (inN c (w 38)) → u 39 = inN c (w 39) → G 32 [some (.ref 31), some (.ref h), some (.int (nI j))] [] u := by
      intro k
      induction k with
      | zero =>
        intro j u h1 h2 hof hf1 hf2
        refine zr_iload_n hE eX7_findChains_32 rfl ?_
        refine zr_aload_n hE eX7_findChains_33 rfl ?_
        refine zr_getI hE eX7_findChains_34 fX7_48 zs31 rfl ?_
        rw [hof 31 (by decide) (by decide), h9]
        refine zr_kicmp_ge hE eX7_findChains_37 (tgt := 56) (by decide) (fun zc37 zd37 => ?_) (fun zc37 zd37 => absurd zc37 (by rw [nI_ltI (by omega) (by omega)]; omega))
        refine zr_aload_n hE eX7_findChains_56 rfl ?_
        refine zr_getI hE eX7_findChains_57 fX7_48 zs31 rfl ?_
        refine zr_iconst hE eX7_findChains_60 (v := 1) (by decide) ?_
        rw [hof 31 (by decide) (by decide), h9]
        refine zr_isub hE eX7_findChains_61 ?_
        refine zr_istore_n hE eX7_findChains_62 (by decide) rfl ?_
        rw [List.drop_eq_nil_of_le (by omega), liA] at hf1
        exact kk2 u hof hf1 hf2
      | succ k ih =>
        intro j u h1 h2 hof hf1 hf2
        have hj0 : j < c := by omega
        obtain ⟨b, hbe⟩ : ∃ b, l.getD j 0 = b := ⟨_, rfl⟩
        have hb : b < 9 := by
          rw [← hbe, List.getD_eq_getElem?_getD, List.getElem?_eq_getElem (by omega)]
          have := hlm _ (List.getElem_mem (l := l) (n := j) (by omega))
          exact Nat.lt_of_lt_of_le this hc
        refine zr_iload_n hE eX7_findChains_32 rfl ?_
        refine zr_aload_n hE eX7_findChains_33 rfl ?_
        refine zr_getI hE eX7_findChains_34 fX7_48 zs31 rfl ?_
        rw [hof 31 (by decide) (by decide), h9]
        refine zr_kicmp_ge hE eX7_findChains_37 (tgt := 56) (by decide) (fun zc37 zd37 => absurd ((nI_ltI (by omega) (by omega)).mpr hj0) zc37) (fun zc37 zd37 => ?_)
        refine zr_aload_n hE eX7_findChains_40 rfl ?_
        refine zr_aload_n hE eX7_findChains_41 rfl ?_
        refine zr_getR hE eX7_findChains_42 fX7_60 (hh).s0 rfl ?_
        refine zr_iload_n hE eX7_findChains_45 rfl ?_
        refine zr_iald hE eX7_findChains_46 (hh).s6 (vpn (show j < 10 by omega) (by decide)) ?_
        simp only [nI_clamp (show j < 2 ^ 31 by omega), hof (h+6) (by omega) (by omega), hord j (by omega), hbe]
        refine zr_callV1 hE eX7_findChains_47 lX7_99 zs31 rfl rfl (by decide) (Nat.le_of_ble_eq_true rfl) (c_X7_lengthenInward (b := b) hb hc (by rw [hof 31 (by decide) (by decide)]; exact h9) (fun u2 hof2 hf3 => ?_))
        refine zr_iincN hE eX7_findChains_50 rfl (by decide) rfl ?_
        refine zr_goto hE eX7_findChains_53 (tgt := 32) (by decide) ?_
        refine ih (j + 1) u2 (by omega) (by omega) (fun p hp1 hp2 => by rw [hof2 p hp1]; exact hof p hp1 hp2) ?_ (by rw [hof2 39 (by decide)]; exact hf2)
        rw [← hf1, drop_cons (l := l) (i := j) (by omega), hbe, liA, hf3, hof 37 (by decide) (by decide)]
    exact loop c 0 u0 (Nat.zero_le _) rfl hof0 (by rw [hf10]; rfl) hf20
  have loop : ∀ (k j : Nat) (u : ww), j ≤ c → c - j = k → (∀ p, p ≠ 38 → p ≠ 39 → u p = w p) → u 38 = inN j (w 38) → u 39 = inN j (w 39) → G 2 [some (.ref 31), some (.ref h), some (.int (nI j))] [] u := by
    intro k
    induction k with
    | zero =>
      intro j u h1 h2 hof hf1 hf2
      have hjc : j = c := by omega
      subst hjc
      refine zr_iload_n hE eX7_findChains_2 rfl ?_
      refine zr_aload_n hE eX7_findChains_3 rfl ?_
      refine zr_getI hE eX7_findChains_4 fX7_48 zs31 rfl ?_
      rw [hof 31 (by decide) (by decide), h9]
      refine zr_kicmp_ge hE eX7_findChains_7 (tgt := 30) (by decide) (fun zc7 zd7 => ?_) (fun zc7 zd7 => absurd zc7 (by rw [nI_ltI (by omega) (by omega)]; omega))
      refine zr_iconst hE eX7_findChains_30 (v := 0) (by decide) ?_
      refine zr_istore_n hE eX7_findChains_31 (by decide) rfl ?_
      exact kk1 0 u hof hf1 hf2
    | succ k ih =>
      intro j u h1 h2 hof hf1 hf2
      have hj0 : j < c := by omega
      refine zr_iload_n hE eX7_findChains_2 rfl ?_
      refine zr_aload_n hE eX7_findChains_3 rfl ?_
      refine zr_getI hE eX7_findChains_4 fX7_48 zs31 rfl ?_
      rw [hof 31 (by decide) (by decide), h9]
      refine zr_kicmp_ge hE eX7_findChains_7 (tgt := 30) (by decide) (fun zc7 zd7 => absurd ((nI_ltI (by omega) (by omega)).mpr hj0) zc7) (fun zc7 zd7 => ?_)
      refine zr_aload_n hE eX7_findChains_10 rfl ?_
      refine zr_getR hE eX7_findChains_11 fX7_30 zs31 rfl ?_
      refine zr_iload_n hE eX7_findChains_14 rfl ?_
      refine zr_iconst hE eX7_findChains_15 (v := 1) (by decide) ?_
      refine zr_iast hE eX7_findChains_16 zs38 (vpn (show j < 9 by omega) (by decide)) ?_
      refine zr_aload_n hE eX7_findChains_17 rfl ?_
      refine zr_getR hE eX7_findChains_18 fX7_33 zs31 rfl ?_
      refine zr_iload_n hE eX7_findChains_21 rfl ?_
      refine zr_iconst hE eX7_findChains_22 (v := 1) (by decide) ?_
      refine zr_iast hE eX7_findChains_23 zs39 (vpn (show j < 9 by omega) (by decide)) ?_
      refine zr_iincN hE eX7_findChains_24 rfl (by decide) rfl ?_
      refine zr_goto hE eX7_findChains_27 (tgt := 2) (by decide) ?_
      simp only [nI_clamp (show j < 2 ^ 31 by omega)]
      refine ih (j + 1) _ (by omega) (by omega) (fun p hp1 hp2 => ?_) ?_ ?_
      · funext z; rw [wu_ne hp2, wu_ne hp1]; exact congrFun (hof p hp1 hp2) z
      · funext z; rw [wu_ne (by decide), wu_upd, hf1]; rfl
      · rw [wu_upd]; funext z; rw [show wu u 38 j 1 39 = u 39 from funext fun z => wu_ne (by decide), hf2]; rfl
  refine zr_iconst hE eX7_findChains_0 (v := 0) (by decide) ?_
  refine zr_istore_n hE eX7_findChains_1 (by decide) rfl ?_
  exact loop c 0 w (Nat.zero_le _) rfl (fun _ _ _ => rfl) rfl rfl
def lwT (LI LO : Nat → Int32) (ib ob : Nat → Bool) : Nat → Int32 × Int32 × Int32
  | 0 => (0, 0, 0)
  | n + 1 => (mx (lwT LI LO ib ob n).1 (LI n), if ib n then mx (lwT LI LO ib ob n).2.1 (LI n) else (lwT LI LO ib ob n).2.1, if ob n then mx (lwT LI LO ib ob n).2.2 (LO n) else (lwT LI LO ib ob n).2.2)
def lwR (LI LO : Nat → Int32) (ib ob : Nat → Bool) (c : Nat) : Int32 := mx (lwT LI LO ib ob c).1 ((lwT LI LO ib ob c).2.1 + 1 + (lwT LI LO ib ob c).2.2)
set_option maxHeartbeats 4000000 in
theorem c_X7_longestWith {h c d : Nat} {w : ww} {Q : Option Value → ww → Prop} (hh : zH h) (hc : c ≤ 9) (hd : d < 10) (h9 : w 31 9 = nI c) (hk : ∀ b, b < c ∨ b = d → vp_in (w (h+1) b) 8) (hQ : Q (some (.int (lwR (w 38) (w 39) (fun a => fLi (hB w h) a d (w h 8)) (fun a => fLi (hB w h) d a (w h 8)) c))) w) : Ct mX7_longestWith 6 [.ref 31, .ref h, .int (nI d)] w Q := by
  refine Ct.of (by decide) (Nat.le_of_ble_eq_true rfl) (fun _ => Nat.le_of_ble_eq_true rfl) (fun G hR => ?_)
  have hE := hR.1
  have loop : ∀ (k j : Nat), j ≤ c → c - j = k → ∀ (x y z : Int32), (x, y, z) = lwT (w 38) (w 39) (fun a => fLi (hB w h) a d (w h 8)) (fun a => fLi (hB w h) d a (w h 8)) j → G 11 [some (.ref 31), some (.ref h), some (.int (nI d)), some (.int x), some (.int y), some (.int z), some (.int (nI j))] [] w := by
    intro k
    induction k with
    | zero =>
      intro j h1 h2 x y z hT
      have hjc : j = c := by omega
      subst hjc
      refine zr_iload hE eX7_longestWith_11 rfl ?_
      refine zr_aload_n hE eX7_longestWith_13 rfl ?_
      refine zr_getI hE eX7_longestWith_14 fX7_48 zs31 rfl ?_
      rw [h9]
      refine zr_kicmp_ge hE eX7_longestWith_17 (tgt := 94) (by decide) (fun zc17 zd17 => ?_) (fun zc17 zd17 => absurd zc17 (by rw [nI_ltI (by omega) (by omega)]; omega))
      refine zr_iload_n hE eX7_longestWith_94 rfl ?_
      refine zr_iload hE eX7_longestWith_95 rfl ?_
      refine zr_iconst hE eX7_longestWith_97 (v := 1) (by decide) ?_
      refine zr_iadd hE eX7_longestWith_98 ?_
      refine zr_iload hE eX7_longestWith_99 rfl ?_
      refine zr_iadd hE eX7_longestWith_101 ?_
      refine zr_mmax hE eX7_longestWith_102 lmX7_106 (by decide) (Nat.le_of_ble_eq_true rfl) ?_
      refine hR.2.1 _ _ _ _ _ _ eX7_longestWith_105 rfl rfl ?_
      refine zq hQ ?_
      unfold lwR
      rw [← hT]
    | succ k ih =>
      intro j h1 h2 x y z hT
      have hj0 : j < c := by omega
      refine zr_iload hE eX7_longestWith_11 rfl ?_
      refine zr_aload_n hE eX7_longestWith_13 rfl ?_
      refine zr_getI hE eX7_longestWith_14 fX7_48 zs31 rfl ?_
      rw [h9]
      refine zr_kicmp_ge hE eX7_longestWith_17 (tgt := 94) (by decide) (fun zc17 zd17 => absurd ((nI_ltI (by omega) (by omega)).mpr hj0) zc17) (fun zc17 zd17 => ?_)
      refine zr_iload_n hE eX7_longestWith_20 rfl ?_
      refine zr_aload_n hE eX7_longestWith_21 rfl ?_
      refine zr_getR hE eX7_longestWith_22 fX7_30 zs31 rfl ?_
      refine zr_iload hE eX7_longestWith_25 rfl ?_
      refine zr_iald hE eX7_longestWith_27 zs38 (vpn (show j < 9 by omega) (by decide)) ?_
      simp only [nI_clamp (show j < 2 ^ 31 by omega)]
      refine zr_mmax hE eX7_longestWith_28 lmX7_106 (by decide) (Nat.le_of_ble_eq_true rfl) ?_
      refine zr_istore_n hE eX7_longestWith_31 (by decide) rfl ?_
      refine zr_aload_n hE eX7_longestWith_32 rfl ?_
      refine zr_iload hE eX7_longestWith_33 rfl ?_
      refine zr_iload_n hE eX7_longestWith_35 rfl ?_
      refine zr_aload_n hE eX7_longestWith_36 rfl ?_
      refine zr_getI hE eX7_longestWith_37 fX7_63 (hh).s0 rfl ?_
      refine zr_callV3 hE eX7_longestWith_40 lX7_66 (hh).s0 rfl rfl (by decide) (Nat.le_of_ble_eq_true rfl) (c_X5_isIn hh (vpn (show j < 10 by omega) (by decide)) (vpn (show d < 10 by omega) (by decide)) (by rw [nI_clamp (by omega)]; exact hk _ (by omega)) (by rw [nI_clamp (by omega)]; exact hk _ (by omega)) ?_)
      simp only [nI_clamp (show j < 2 ^ 31 by omega), nI_clamp (show d < 2 ^ 31 by omega)]
      refine zr_beq hE eX7_longestWith_43 (tgt := 60) (by decide) (fun zc43 => ?_) (fun zc43 => ?_)
      · refine zr_aload_n hE eX7_longestWith_60 rfl ?_
        refine zr_iload_n hE eX7_longestWith_61 rfl ?_
        refine zr_iload hE eX7_longestWith_62 rfl ?_
        refine zr_aload_n hE eX7_longestWith_64 rfl ?_
        refine zr_getI hE eX7_longestWith_65 fX7_63 (hh).s0 rfl ?_
        refine zr_callV3 hE eX7_longestWith_68 lX7_66 (hh).s0 rfl rfl (by decide) (Nat.le_of_ble_eq_true rfl) (c_X5_isIn hh (vpn (show d < 10 by omega) (by decide)) (vpn (show j < 10 by omega) (by decide)) (by rw [nI_clamp (by omega)]; exact hk _ (by omega)) (by rw [nI_clamp (by omega)]; exact hk _ (by omega)) ?_)
        simp only [nI_clamp (show j < 2 ^ 31 by omega), nI_clamp (show d < 2 ^ 31 by omega)]
        refine zr_beq hE eX7_longestWith_71 (tgt := 88) (by decide) (fun zc71 => ?_) (fun zc71 => ?_)
        · refine zr_iincN hE eX7_longestWith_88 rfl (by decide) rfl ?_
          refine zr_goto hE eX7_longestWith_91 (tgt := 11) (by decide) ?_
          refine ih (j + 1) (by omega) (by omega) _ _ _ ?_
          rw [lwT, ← hT]
          simp only [zc43, zc71, Bool.false_eq_true, if_false]
        · refine zr_iload hE eX7_longestWith_74 rfl ?_
          refine zr_aload_n hE eX7_longestWith_76 rfl ?_
          refine zr_getR hE eX7_longestWith_77 fX7_33 zs31 rfl ?_
          refine zr_iload hE eX7_longestWith_80 rfl ?_
          refine zr_iald hE eX7_longestWith_82 zs39 (vpn (show j < 9 by omega) (by decide)) ?_
          simp only [nI_clamp (show j < 2 ^ 31 by omega)]
          refine zr_mmax hE eX7_longestWith_83 lmX7_106 (by decide) (Nat.le_of_ble_eq_true rfl) ?_
          refine zr_istore hE eX7_longestWith_86 (by decide) rfl ?_
          refine zr_iincN hE eX7_longestWith_88 rfl (by decide) rfl ?_
          refine zr_goto hE eX7_longestWith_91 (tgt := 11) (by decide) ?_
          refine ih (j + 1) (by omega) (by omega) _ _ _ ?_
          rw [lwT, ← hT]
          simp only [zc43, zc71, Bool.false_eq_true, if_false, if_true]
      · refine zr_iload hE eX7_longestWith_46 rfl ?_
        refine zr_aload_n hE eX7_longestWith_48 rfl ?_
        refine zr_getR hE eX7_longestWith_49 fX7_30 zs31 rfl ?_
        refine zr_iload hE eX7_longestWith_52 rfl ?_
        refine zr_iald hE eX7_longestWith_54 zs38 (vpn (show j < 9 by omega) (by decide)) ?_
        simp only [nI_clamp (show j < 2 ^ 31 by omega)]
        refine zr_mmax hE eX7_longestWith_55 lmX7_106 (by decide) (Nat.le_of_ble_eq_true rfl) ?_
        refine zr_istore hE eX7_longestWith_58 (by decide) rfl ?_
        refine zr_aload_n hE eX7_longestWith_60 rfl ?_
        refine zr_iload_n hE eX7_longestWith_61 rfl ?_
        refine zr_iload hE eX7_longestWith_62 rfl ?_
        refine zr_aload_n hE eX7_longestWith_64 rfl ?_
        refine zr_getI hE eX7_longestWith_65 fX7_63 (hh).s0 rfl ?_
        refine zr_callV3 hE eX7_longestWith_68 lX7_66 (hh).s0 rfl rfl (by decide) (Nat.le_of_ble_eq_true rfl) (c_X5_isIn hh (vpn (show d < 10 by omega) (by decide)) (vpn (show j < 10 by omega) (by decide)) (by rw [nI_clamp (by omega)]; exact hk _ (by omega)) (by rw [nI_clamp (by omega)]; exact hk _ (by omega)) ?_)
        simp only [nI_clamp (show j < 2 ^ 31 by omega), nI_clamp (show d < 2 ^ 31 by omega)]
        refine zr_beq hE eX7_longestWith_71 (tgt := 88) (by decide) (fun zc71 => ?_) (fun zc71 => ?_)
        · refine zr_iincN hE eX7_longestWith_88 rfl (by decide) rfl ?_
          refine zr_goto hE eX7_longestWith_91 (tgt := 11) (by decide) ?_
          refine ih (j + 1) (by omega) (by omega) _ _ _ ?_
          rw [lwT, ← hT]
          simp only [zc43, zc71, Bool.false_eq_true, if_false, if_true]
        · refine zr_iload hE eX7_longestWith_74 rfl ?_
          refine zr_aload_n hE eX7_longestWith_76 rfl ?_
          refine zr_getR hE eX7_longestWith_77 fX7_33 zs31 rfl ?_
          refine zr_iload hE eX7_longestWith_80 rfl ?_
          refine zr_iald hE eX7_longestWith_82 zs39 (vpn (show j < 9 by omega) (by decide)) ?_
          simp only [nI_clamp (show j < 2 ^ 31 by omega)]
          refine zr_mmax hE eX7_longestWith_83 lmX7_106 (by decide) (Nat.le_of_ble_eq_true rfl) ?_
          refine zr_istore hE eX7_longestWith_86 (by decide) rfl ?_
          refine zr_iincN hE eX7_longestWith_88 rfl (by decide) rfl ?_
          refine zr_goto hE eX7_longestWith_91 (tgt := 11) (by decide) ?_
          refine ih (j + 1) (by omega) (by omega) _ _ _ ?_
          rw [lwT, ← hT]
          simp only [zc43, zc71, if_true]
  refine zr_iconst hE eX7_longestWith_0 (v := 0) (by decide) ?_
  refine zr_istore_n hE eX7_longestWith_1 (by decide) rfl ?_
  refine zr_iconst hE eX7_longestWith_2 (v := 0) (by decide) ?_
  refine zr_istore hE eX7_longestWith_3 (by decide) rfl ?_
  refine zr_iconst hE eX7_longestWith_5 (v := 0) (by decide) ?_
  refine zr_istore hE eX7_longestWith_6 (by decide) rfl ?_
  refine zr_iconst hE eX7_longestWith_8 (v := 0) (by decide) ?_
  refine zr_istore hE eX7_longestWith_9 (by decide) rfl ?_
  exact loop c 0 (Nat.zero_le _) rfl 0 0 0 rfl
