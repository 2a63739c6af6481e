/-! helps. -/
theorem liN_cong {A A2 : Int32} {b c : Nat} (hb : b < c) {f f2 : Nat → Int32} (hA : A = A2) (h : ∀ i, i < c → f i = f2 i) : ∀ n, n ≤ c → ∀ i, i < c → liN A b n f i = liN A2 b n f2 i
  | 0, _, i, hi => h i hi
  | n + 1, hn, i, hi => by
    subst hA
    have ih := liN_cong (A := A) hb rfl h n (by omega)
    rw [liN, liN]
    by_cases q : iBit A n = true
    · rw [if_pos q, if_pos q, ih n (by omega), ih b hb]
      unfold upd
      by_cases q2 : i = n
      · rw [if_pos q2, if_pos q2]
      · rw [if_neg q2, if_neg q2, ih i hi]
    · rw [if_neg q, if_neg q, ih i hi]
theorem loN_cong {A A2 : Int32} {b c : Nat} (hb : b < c) {f f2 : Nat → Int32} (hA : A = A2) (h : ∀ i, i < c → f i = f2 i) : ∀ n, n ≤ c → ∀ i, i < c → loN A b n f i = loN A2 b n f2 i
  | 0, _, i, hi => h i hi
  | n + 1, hn, i, hi => by
    subst hA
    have ih := loN_cong (A := A) hb rfl h n (by omega)
    rw [loN, loN]
    by_cases q : iBit A n = true
    · rw [if_pos q, if_pos q, ih n (by omega), ih b hb]
      unfold upd
      by_cases q2 : i = b
      · rw [if_pos q2, if_pos q2]
      · rw [if_neg q2, if_neg q2, ih i hi]
    · rw [if_neg q, if_neg q, ih i hi]
theorem liA_cong {A A2 : Nat → Int32} {c : Nat} (hA : ∀ b, b < c → A b = A2 b) : ∀ (l : List Nat) (f f2 : Nat → Int32), (∀ y ∈ l, y < c) → (∀ i, i < c → f i = f2 i) → ∀ i, i < c → liA A c l f i = liA A2 c l f2 i
  | [], f, f2, _, h, i, hi => h i hi
  | b :: l, f, f2, hl, h, i, hi => by
    have hb := hl b (by simp)
    exact liA_cong hA l _ _ (fun y hy => hl y (by simp [hy])) (fun j hj => liN_cong hb (hA b hb) h c (Nat.le_refl _) j hj) i hi
theorem loA_cong {A A2 : Nat → Int32} {c : Nat} (hA : ∀ b, b < c → A b = A2 b) : ∀ (l : List Nat) (f f2 : Nat → Int32), (∀ y ∈ l, y < c) → (∀ i, i < c → f i = f2 i) → ∀ i, i < c → loA A c l f i = loA A2 c l f2 i
  | [], f, f2, _, h, i, hi => h i hi
  | b :: l, f, f2, hl, h, i, hi => by
    have hb := hl b (by simp)
    exact loN_cong hb (hA b hb) (fun j hj => loA_cong hA l f f2 (fun y hy => hl y (by simp [hy])) h j hj) c (Nat.le_refl _) i hi
theorem inN_one {f : Nat → Int32} : ∀ (n i : Nat), i < n → inN n f i = 1
  | 0, i, h => absurd h (by omega)
  | n + 1, i, h => by
    rw [inN]; unfold upd
    by_cases q : i = n
    · rw [if_pos q]
    · rw [if_neg q]; exact inN_one n i (by omega)
theorem lwT_cong {LI LI2 LO LO2 : Nat → Int32} {ib ib2 ob ob2 : Nat → Bool} : ∀ (n : Nat), (∀ i, i < n → LI i = LI2 i) → (∀ i, i < n → LO i = LO2 i) → (∀ i, i < n → ib i = ib2 i) → (∀ i, i < n → ob i = ob2 i) → lwT LI LO ib ob n = lwT LI2 LO2 ib2 ob2 n
  | 0, _, _, _, _ => rfl
  | n + 1, h1, h2, h3, h4 => by
    rw [lwT, lwT, lwT_cong n (fun i hi => h1 i (by omega)) (fun i hi => h2 i (by omega)) (fun i hi => h3 i (by omega)) (fun i hi => h4 i (by omega)), h1 n (by omega), h2 n (by omega), h3 n (by omega), h4 n (by omega)]
def fAm (B : zBv) (v : Int32) (c b : Nat) : Int32 := nI (aMk (fun a b => fLi B a b v) c b)
/-- the longest chains inward and outward from each bowl, itself counted -/
def fLI (B : zBv) (v : Int32) (c : Nat) : Nat → Int32 := liA (fAm B v c) c (ordO (oB B) c) (fun _ => 1)
def fLO (B : zBv) (v : Int32) (c : Nat) : Nat → Int32 := loA (fAm B v c) c (ordO (oB B) c) (fun _ => 1)
def hpV (B : zBv) (v : Int32) (c : Nat) (d s : Int32) : Int32 := lwR (fLI B v c) (fLO B v c) (fun a => fLi (addB B c s d) a c v) (fun a => fLi (addB B c s d) c a v) c
def hpF (f : Int32 → Int32) : Nat → Nat → Int32 → Int32 → Int32 × Int32
  | 0, _, b, m => (b, m)
  | k + 1, i, b, m => if m < f (nI i) then hpF f k (i + 1) (nI i) (f (nI i)) else hpF f k (i + 1) b m
def hpR (B : zBv) (v : Int32) (c : Nat) (d : Int32) : Int32 × Int32 := hpF (hpV B v c d) 99 1 1 0
set_option maxHeartbeats 4000000 in
theorem hp_lp {G : zG} {w : ww} {Q : Option Value → ww → Prop} {B : zBv} {v e k0 d : Int32} {c : Nat} {r : Int32 × Int32} (hR : zR RX11 cX11_helps 8 8 (some .int) Q G) (hc9 : c ≤ 9) (hk : ∀ b, b < c → vp_in (B 0 b) 8) (w9 : w 31 9 = nI c) (wLI : ∀ i, i < c → w 38 i = fLI B v c i) (wLO : ∀ i, i < c → w 39 i = fLO B v c i) (hQ : ∀ u : ww, (∀ p, ¬ tri p → u p = w p) → Q (some (.int (if k0 = 0 then r.1 else r.2))) u) :
    ∀ (k i : Nat) (b m s : Int32) (u : ww), i + k = 100 → 1 ≤ i → (∀ p, ¬ tri p → u p = w p) → Tri B c v s d u → hpF (hpV B v c d) k i b m = r → G 70 [some (.ref 0), some (.int e), some (.int k0), some (.int (nI c)), some (.int b), some (.int m), some (.int (nI i)), none] [] u := by
  have hE := hR.1
  have hof2 : ∀ (u : ww) (i : Nat), (∀ p, ¬ tri p → u p = w p) → ∀ p, ¬ tri p → wu u 21 c (nI i) p = w p := fun u i h p hp => by
    rw [← h p hp]; unfold tri at hp; funext z; rw [wu_ne (by omega)]
  have x9 : ∀ u : ww, (∀ p, ¬ tri p → u p = w p) → u 31 9 = nI c := fun u h => by rw [h 31 (by unfold tri; omega)]; exact w9
  have xval : ∀ (u : ww) (s : Int32), (∀ p, ¬ tri p → u p = w p) → Tri B c v s d u → lwR (u 38) (u 39) (fun a => fLi (hB u 17) a c (u 17 8)) (fun a => fLi (hB u 17) c a (u 17 8)) c = hpV B v c d s := fun u s h hT => by
    unfold hpV lwR
    rw [lwT_cong (LI := u 38) (LI2 := fLI B v c) (LO := u 39) (LO2 := fLO B v c) c (fun i hi => by rw [h 38 (by unfold tri; omega)]; exact wLI i hi) (fun i hi => by rw [h 39 (by unfold tri; omega)]; exact wLO i hi) (fun i hi => ?_) (fun i hi => ?_)]
    · show fLi _ _ _ _ = _; rw [hT.2.1]; exact hT.fl (by omega) (Nat.le_refl _)
    · show fLi _ _ _ _ = _; rw [hT.2.1]; exact hT.fl (Nat.le_refl _) (by omega)
  intro k
  induction k with
  | zero =>
    intro i b m s u h1 h2 hof hT hr
    refine zr_iload hE eX11_helps_70 rfl ?_
    refine zr_bipush hE eX11_helps_72 (v := 99) (by decide) ?_
    refine zr_kicmp_gt hE eX11_helps_74 (tgt := 123) (by decide) (fun zc74 zd74 => ?_) (fun zc74 zd74 => absurd zc74 (by rw [show (99 : Int32) = nI 99 from rfl, nI_leI (by omega) (by decide)]; omega))
    refine zr_iload_n hE eX11_helps_123 rfl ?_
    refine zr_if_ne hE eX11_helps_124 (tgt := 132) (by decide) (fun zc124 => ?_) (fun zc124 => ?_)
    · refine zr_iload hE eX11_helps_132 rfl ?_
      refine hR.2.1 _ _ _ _ _ _ eX11_helps_134 rfl rfl ?_
      rw [hpF] at hr
      have q := hQ u hof
      rw [if_neg zc124, ← hr] at q
      exact q
    · refine zr_iload hE eX11_helps_127 rfl ?_
      refine zr_goto hE eX11_helps_129 (tgt := 134) (by decide) ?_
      refine hR.2.1 _ _ _ _ _ _ eX11_helps_134 rfl rfl ?_
      rw [hpF] at hr
      have q := hQ u hof
      rw [if_pos zc124, ← hr] at q
      exact q
  | succ k ih =>
    intro i b m s u h1 h2 hof hT hr
    have xi0 : i ≤ 99 := by omega
    refine zr_iload hE eX11_helps_70 rfl ?_
    refine zr_bipush hE eX11_helps_72 (v := 99) (by decide) ?_
    refine zr_kicmp_gt hE eX11_helps_74 (tgt := 123) (by decide) (fun zc74 zd74 => absurd ((nI_leI (by omega) (by decide)).mpr xi0) zc74) (fun zc74 zd74 => ?_)
    refine zr_aload_n hE eX11_helps_77 rfl ?_
    refine zr_getR hE eX11_helps_78 fX11_46 zs0 rfl ?_
    refine zr_getR hE eX11_helps_81 fX11_96 (zH17).s0 rfl ?_
    refine zr_iload_n hE eX11_helps_84 rfl ?_
    refine zr_iload hE eX11_helps_85 rfl ?_
    refine zr_iast hE eX11_helps_87 (zH17).s4 (vpn (show c < 10 by omega) (by decide)) ?_
    simp only [nI_clamp (show c < 2 ^ 31 by omega)]
    have xT := hT.w (s2 := nI i)
    have xv := xval _ _ (hof2 u i hof) xT
    refine zr_aload_n hE eX11_helps_88 rfl ?_
    refine zr_getR hE eX11_helps_89 fX11_55 zs0 rfl ?_
    refine zr_aload_n hE eX11_helps_92 rfl ?_
    refine zr_getR hE eX11_helps_93 fX11_46 zs0 rfl ?_
    refine zr_iload_n hE eX11_helps_96 rfl ?_
    refine zr_callV2 hE eX11_helps_97 lX11_207 zs31 rfl rfl (by decide) (Nat.le_of_ble_eq_true rfl) (c_X7_longestWith zH17 (c := c) (d := c) hc9 (by omega) (x9 _ (hof2 u i hof)) (fun b hb => xT.k hk b (by omega)) ?_)
    rw [xv]
    refine zr_istore hE eX11_helps_100 (by decide) rfl ?_
    refine zr_iload hE eX11_helps_102 rfl ?_
    refine zr_iload hE eX11_helps_104 rfl ?_
    refine zr_kicmp_le hE eX11_helps_106 (tgt := 117) (by decide) (fun zc106 zd106 => ?_) (fun zc106 zd106 => ?_)
    · refine zr_iincN hE eX11_helps_117 rfl (by decide) rfl ?_
      refine zr_goto hE eX11_helps_120 (tgt := 70) (by decide) ?_
      refine zr_mask hE [true, true, true, true, true, true, true, false] ?_
      refine ih (i + 1) _ _ _ _ (by omega) (by omega) (hof2 u i hof) xT ?_
      rw [← hr, hpF, if_neg zc106]
    · refine zr_iload hE eX11_helps_109 rfl ?_
      refine zr_istore hE eX11_helps_111 (by decide) rfl ?_
      refine zr_iload hE eX11_helps_113 rfl ?_
      refine zr_istore hE eX11_helps_115 (by decide) rfl ?_
      refine zr_iincN hE eX11_helps_117 rfl (by decide) rfl ?_
      refine zr_goto hE eX11_helps_120 (tgt := 70) (by decide) ?_
      refine zr_mask hE [true, true, true, true, true, true, true, false] ?_
      refine ih (i + 1) _ _ _ _ (by omega) (by omega) (hof2 u i hof) xT ?_
      rw [← hr, hpF, if_pos zc106]
set_option maxHeartbeats 4000000 in
theorem c_X11_helps {c : Nat} {d k : Int32} {w : ww} {Q : Option Value → ww → Prop} (hN : Now w c) (hQ1 : ¬ (fIs d 1 99 = true ∧ fIs k 0 1 = true) → Q (some (.int (-1))) w) (hQ2 : fIs d 1 99 = true ∧ fIs k 0 1 = true → ∀ u, SC w u → Q (some (.int (if k = 0 then (hpR (hB w 10) (w 10 8) c d).1 else (hpR (hB w 10) (w 10 8) c d).2))) u)  : Ct mX11_helps 8 [.ref 0, .int d, .int k] w Q := by
  refine Ct.of (by decide) (Nat.le_of_ble_eq_true rfl) (fun _ => Nat.le_of_ble_eq_true rfl) (fun G hR => ?_)
  have hE := hR.1
  refine zr_iload_n hE eX11_helps_0 rfl ?_
  refine zr_callS1 hE eX11_helps_1 lX11_120 (by decide) (Nat.le_of_ble_eq_true rfl) (c_X11_areHairs ?_)
  refine zr_beq hE eX11_helps_4 (tgt := 16) (by decide) (fun zc4 => ?_) (fun zc4 => ?_)
  · refine zr_iconst hE eX11_helps_16 (v := -1) (by decide) ?_
    refine hR.2.1 _ _ _ _ _ _ eX11_helps_17 rfl rfl ?_
    exact hQ1 (fun xq => by have x1 : fIs d 1 99 = false := zc4; rw [x1] at xq; exact absurd xq.1 (by decide))
  · refine zr_iload_n hE eX11_helps_7 rfl ?_
    refine zr_iconst hE eX11_helps_8 (v := 0) (by decide) ?_
    refine zr_iconst hE eX11_helps_9 (v := 1) (by decide) ?_
    refine zr_callS3 hE eX11_helps_10 lX11_123 (by decide) (Nat.le_of_ble_eq_true rfl) (c_X11_isWithin ?_)
    refine zr_bne hE eX11_helps_13 (tgt := 18) (by decide) (fun zc13 => ?_) (fun zc13 => ?_)
    · refine zr_aload_n hE eX11_helps_18 rfl ?_
      refine zr_getR hE eX11_helps_19 fX11_55 zs0 rfl ?_
      refine zr_aload_n hE eX11_helps_22 rfl ?_
      refine zr_getR hE eX11_helps_23 fX11_42 zs0 rfl ?_
      refine zr_callV1 hE eX11_helps_26 lX11_160 zs31 rfl rfl (by decide) (Nat.le_of_ble_eq_true rfl) (c_find hN (fun u hF => ?_))
      refine zr_aload_n hE eX11_helps_29 rfl ?_
      refine zr_getR hE eX11_helps_30 fX11_55 zs0 rfl ?_
      refine zr_aload_n hE eX11_helps_33 rfl ?_
      refine zr_getR hE eX11_helps_34 fX11_42 zs0 rfl ?_
      refine zr_callV1 hE eX11_helps_37 lX11_204 zs31 rfl rfl (by decide) (Nat.le_of_ble_eq_true rfl) (c_X7_findChains zH10 (c := c) (l := ordO (oB (hB w 10)) c) hN.1 hF.2.1 (ordO_len _ _) (fun y hy => (ordO_mem _ _ _).mp hy) hF.2.2.2.2.2.1 (fun u2 hof2 hLI hLO => ?_))
      refine zr_aload_n hE eX11_helps_40 rfl ?_
      refine zr_getR hE eX11_helps_41 fX11_46 zs0 rfl ?_
      refine zr_aload_n hE eX11_helps_44 rfl ?_
      refine zr_getR hE eX11_helps_45 fX11_42 zs0 rfl ?_
      have x17 : u2 10 7 = nI c := by rw [hof2 10 (by decide) (by decide), hF.1 10 (by unfold Scr; omega)]; exact hN.2.1
      refine zr_callV1 hE eX11_helps_48 lX11_192 (zH17).s0 rfl rfl (by decide) (Nat.le_of_ble_eq_true rfl) (c_X5_become zH17 zH10 (by decide) (fun xu xof x7 x8 xB => ?_))
      refine zr_aload_n hE eX11_helps_51 rfl ?_
      refine zr_getR hE eX11_helps_52 fX11_46 zs0 rfl ?_
      refine zr_iconst hE eX11_helps_55 (v := 1) (by decide) ?_
      refine zr_iload_n hE eX11_helps_56 rfl ?_
      refine zr_callV2 hE eX11_helps_57 lX11_195 (zH17).s0 rfl rfl (by decide) (Nat.le_of_ble_eq_true rfl) (c_X5_think zH17 (by rw [x7, x17]; exact vpn (by have := hN.1; omega) (by decide)) ?_)
      rw [x7, x17]
      refine zr_istore_n hE eX11_helps_60 (by decide) rfl ?_
      refine zr_iconst hE eX11_helps_61 (v := 1) (by decide) ?_
      refine zr_istore hE eX11_helps_62 (by decide) rfl ?_
      refine zr_iconst hE eX11_helps_64 (v := 0) (by decide) ?_
      refine zr_istore hE eX11_helps_65 (by decide) rfl ?_
      refine zr_iconst hE eX11_helps_67 (v := 1) (by decide) ?_
      refine zr_istore hE eX11_helps_68 (by decide) rfl ?_
      have hlm : ∀ y ∈ ordO (oB (hB w 10)) c, y < c := fun y hy => (ordO_mem _ _ _).mp hy
      have e8 : u2 10 8 = w 10 8 := by rw [hof2 10 (by decide) (by decide), hF.1 10 (by unfold Scr; omega)]
      have eB : ∀ k b, k < 5 → hB u2 10 k b = hB w 10 k b := fun k b hk => by
        unfold hB; rw [hof2 _ (by omega) (by omega), hF.1 _ (by unfold Scr; omega)]
      have hT := Tri.of (B := hB w 10) (v := w 10 8) (s := 1) (d := d) hN.1 (x7.trans x17) (x8.trans e8) (fun k b hk hb => (xB k b hk hb).trans (eB k b hk))
      have hfr : ∀ p, ¬ tri p → hPl xu 17 0 0 0 1 d p = u2 p := fun p hp => by
        rw [hPl_off hp]; exact xof p (by unfold tri at hp; omega)
      refine hp_lp (w := u2) (v := w 10 8) (B := hB w 10) (r := hpR (hB w 10) (w 10 8) c d) hR hN.1 hN.2.2 ?_ (fun i hi => ?_) (fun i hi => ?_) (fun u3 hu => hQ2 ⟨zc4, zc13⟩ u3 (fun p hp => ?_)) 99 1 1 0 1 _ rfl (by decide) hfr hT rfl
      · rw [hof2 31 (by decide) (by decide)]; exact hF.2.1
      · rw [hLI]; exact liA_cong hF.2.2.2.2.2.2 _ _ _ hlm (fun j hj => inN_one c j hj) i hi
      · rw [hLO]; exact loA_cong hF.2.2.2.2.2.2 _ _ _ hlm (fun j hj => inN_one c j hj) i hi
      · unfold Scr at hp
        rw [hu p (by unfold tri; omega), hof2 p (by omega) (by omega)]
        exact hF.1 p (by unfold Scr; omega)
    · refine zr_iconst hE eX11_helps_16 (v := -1) (by decide) ?_
      refine hR.2.1 _ _ _ _ _ _ eX11_helps_17 rfl rfl ?_
      exact hQ1 (fun xq => by have x1 : fIs k 0 1 = false := zc13; rw [x1] at xq; exact absurd xq.2 (by decide))

