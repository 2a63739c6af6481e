/-! throwsNew, helps. -/
def tnF (lz br : Nat → Nat → Bool) (l : List Nat) : Nat → Nat → Int32 → Int32
  | 0, _, g => g
  | k + 1, i, g => if lz (l.getD i 0) (l.getD (i + 1) 0) = true then tnF lz br l k (i + 1) g else if 2 < g + 1 ∨ br (l.getD i 0) (l.getD (i + 1) 0) = false then -4 else tnF lz br l k (i + 1) (g + 1)
def tnR (B : zBv) (v : Int32) (c : Nat) : Int32 := tnF (fun a b => fLi B a b v) (brF B v c) (ordO (oB B) c) (c - 1) 0 0
theorem addB_cong {B B2 : zBv} {c : Nat} {s d : Int32} (h : ∀ k b, k < 5 → B k b = B2 k b) (k b : Nat) (hk : k < 5) : addB B c s d k b = addB B2 c s d k b := by
  unfold addB; rw [h k b hk]
theorem Tri.cong {B B2 : zBv} {c : Nat} {v s d : Int32} {u : ww} (h : ∀ k b, k < 5 → B k b = B2 k b) (hT : Tri B c v s d u) : Tri B2 c v s d u :=
  ⟨hT.1, hT.2.1, fun k b hk hb => by rw [hT.2.2 k b hk hb, addB_cong h k b hk]⟩
theorem brF_cong {B B2 : zBv} {c a b : Nat} {v : Int32} (h : ∀ k b, k < 5 → B k b = B2 k b) : brF B v c a b = brF B2 v c a b := by
  unfold brF
  have e1 : fOut B a (B 3 a) = fOut B2 a (B2 3 a) := oB_cong (b := a) (fun k hk => h k a hk)
  rw [e1, h 4 a (by decide)]
  rw [fLi_cong (B := addB B c (fOut B2 a (B2 3 a) + 2 + v) (B2 4 a)) (B' := addB B2 c (fOut B2 a (B2 3 a) + 2 + v) (B2 4 a)) (fun k hk => addB_cong h k _ hk) (fun k hk => addB_cong h k _ hk)]
  rw [fLi_cong (B := addB B c (fOut B2 a (B2 3 a) + 2 + v) (B2 4 a)) (B' := addB B2 c (fOut B2 a (B2 3 a) + 2 + v) (B2 4 a)) (a := c) (b := b) (fun k hk => addB_cong h k _ hk) (fun k hk => addB_cong h k _ hk)]
theorem tri_B {w u : ww} (hof : ∀ p, ¬ tri p → u p = w p) (k b : Nat) (hk : k < 5) : hB u 10 k b = hB w 10 k b := by
  unfold hB; rw [hof _ (by unfold tri; omega)]
theorem tri_N {w u : ww} {c : Nat} (hof : ∀ p, ¬ tri p → u p = w p) (hN : Now w c) : Now u c :=
  ⟨hN.1, by rw [hof 10 (by unfold tri; omega)]; exact hN.2.1, fun b hb => by rw [hof 11 (by unfold tri; omega)]; exact hN.2.2 b hb⟩
set_option maxHeartbeats 4000000 in
theorem tn_lp {G : zG} {w : ww} {Q : Option Value → ww → Prop} {c : Nat} {r : Int32} {l : List Nat} (hR : zR RX11 cX11_throwsNew 6 7 (some .int) Q G) (hN : Now w c) (hord : ∀ i, i < c → w 16 i = nI (l.getD i 0)) (hlm : ∀ i, i < c → l.getD i 0 < c) (hQ : ∀ u : ww, (∀ p, ¬ tri p → u p = w p) → Q (some (.int r)) u) :
    ∀ (k i : Nat) (g s d : Int32) (u : ww), i < c → c - 1 - i = k → (∀ p, ¬ tri p → u p = w p) → Tri (hB w 10) c (w 10 8) s d u → tnF (fun a b => fLi (hB w 10) a b (w 10 8)) (brF (hB w 10) (w 10 8) c) l k i g = r → G 45 [some (.ref 0), some (.int (nI c)), some (.int g), some (.int (nI (i + 1))), none, none] [] u := by
  have hE := hR.1
  have hc9 := hN.1
  intro k
  induction k with
  | zero =>
    intro i g s d u h1 h2 hof hT hr
    have hic : i + 1 = c := by omega
    have x107 : u 10 7 = nI c := by rw [hof 10 (by unfold tri; omega)]; exact hN.2.1
    have xo8 : u 10 8 = w 10 8 := by rw [hof 10 (by unfold tri; omega)]
    have xo16 : u 16 = w 16 := hof 16 (by unfold tri; omega)
    refine zr_iload_n hE eX11_throwsNew_45 rfl ?_
    refine zr_aload_n hE eX11_throwsNew_46 rfl ?_
    refine zr_getR hE eX11_throwsNew_47 fX11_42 zs0 rfl ?_
    refine zr_getI hE eX11_throwsNew_50 fX11_138 (zH10).s0 rfl ?_
    rw [x107]
    refine zr_kicmp_ge hE eX11_throwsNew_53 (tgt := 130) (by decide) (fun zc53 zd53 => ?_) (fun zc53 zd53 => absurd zc53 (by rw [nI_ltI (by omega) (by omega)]; omega))
    refine zr_iload_n hE eX11_throwsNew_130 rfl ?_
    refine hR.2.1 _ _ _ _ _ _ eX11_throwsNew_131 rfl rfl ?_
    rw [tnF] at hr
    rw [← hr] at hQ
    exact hQ u hof
  | succ k ih =>
    intro i g s d u h1 h2 hof hT hr
    have xi0 : i + 1 < c := by omega
    have x107 : u 10 7 = nI c := by rw [hof 10 (by unfold tri; omega)]; exact hN.2.1
    have xo8 : u 10 8 = w 10 8 := by rw [hof 10 (by unfold tri; omega)]
    have xo16 : u 16 = w 16 := hof 16 (by unfold tri; omega)
    obtain ⟨la, xla⟩ : ∃ la, la = l.getD i 0 := ⟨_, rfl⟩
    obtain ⟨lb, xlb⟩ : ∃ lb, lb = l.getD (i + 1) 0 := ⟨_, rfl⟩
    have xa : la < c := by rw [xla]; exact hlm i h1
    have xb : lb < c := by rw [xlb]; exact hlm (i + 1) xi0
    have xl1 : la < 10 := by omega
    have xl2 : lb < 10 := by omega
    have xc1 : (nI la).toNatClampNeg = la := nI_clamp (by omega)
    have xc2 : (nI lb).toNatClampNeg = lb := nI_clamp (by omega)
    have xk1 : vp_in (u (10 + 1) (nI la).toNatClampNeg) 8 := by rw [xc1]; exact (tri_N hof hN).2.2 la xa
    have xk2 : vp_in (u (10 + 1) (nI lb).toNatClampNeg) 8 := by rw [xc2]; exact (tri_N hof hN).2.2 lb xb
    have xfl : fLi (hB u 10) (nI la).toNatClampNeg (nI lb).toNatClampNeg (u 10 8) = fLi (hB w 10) la lb (w 10 8) := by
      rw [xc1, xc2, xo8]; exact fLi_cong (fun k hk => tri_B hof k _ hk) (fun k hk => tri_B hof k _ hk)
    have xyes : fLi (hB u 10) (nI la).toNatClampNeg (nI lb).toNatClampNeg (u 10 8) = true → fLi (hB w 10) la lb (w 10 8) = true := fun q => by rw [← xfl]; exact q
    have xbr : ∀ {z : Bool}, brF (hB u 10) (u 10 8) c la lb = z → brF (hB w 10) (w 10 8) c la lb = z := fun q => by
      rw [← q, xo8]; exact (brF_cong (fun k b hk => tri_B hof k b hk)).symm
    refine zr_iload_n hE eX11_throwsNew_45 rfl ?_
    refine zr_aload_n hE eX11_throwsNew_46 rfl ?_
    refine zr_getR hE eX11_throwsNew_47 fX11_42 zs0 rfl ?_
    refine zr_getI hE eX11_throwsNew_50 fX11_138 (zH10).s0 rfl ?_
    rw [x107]
    refine zr_kicmp_ge hE eX11_throwsNew_53 (tgt := 130) (by decide) (fun zc53 zd53 => absurd ((nI_ltI (by omega) (by omega)).mpr xi0) zc53) (fun zc53 zd53 => ?_)
    refine zr_aload_n hE eX11_throwsNew_56 rfl ?_
    refine zr_getR hE eX11_throwsNew_57 fX11_42 zs0 rfl ?_
    refine zr_getR hE eX11_throwsNew_60 fX11_198 (zH10).s0 rfl ?_
    refine zr_iload_n hE eX11_throwsNew_63 rfl ?_
    refine zr_iconst hE eX11_throwsNew_64 (v := 1) (by decide) ?_
    refine zr_isub hE eX11_throwsNew_65 ?_
    simp only [nI_pred]
    refine zr_iald hE eX11_throwsNew_66 (zH10).s6 (vpn (show i < 10 by omega) (by decide)) ?_
    simp only [nI_clamp (show i < 2 ^ 31 by omega)]
    rw [xo16, hord i (by omega), ← xla]
    refine zr_istore hE eX11_throwsNew_67 (by decide) rfl ?_
    refine zr_aload_n hE eX11_throwsNew_69 rfl ?_
    refine zr_getR hE eX11_throwsNew_70 fX11_42 zs0 rfl ?_
    refine zr_getR hE eX11_throwsNew_73 fX11_198 (zH10).s0 rfl ?_
    refine zr_iload_n hE eX11_throwsNew_76 rfl ?_
    refine zr_iald hE eX11_throwsNew_77 (zH10).s6 (vpn (show i + 1 < 10 by omega) (by decide)) ?_
    simp only [nI_clamp (show i + 1 < 2 ^ 31 by omega)]
    rw [xo16, hord (i + 1) (by omega), ← xlb]
    refine zr_istore hE eX11_throwsNew_78 (by decide) rfl ?_
    refine zr_aload_n hE eX11_throwsNew_80 rfl ?_
    refine zr_getR hE eX11_throwsNew_81 fX11_42 zs0 rfl ?_
    refine zr_iload hE eX11_throwsNew_84 rfl ?_
    refine zr_iload hE eX11_throwsNew_86 rfl ?_
    refine zr_aload_n hE eX11_throwsNew_88 rfl ?_
    refine zr_getR hE eX11_throwsNew_89 fX11_42 zs0 rfl ?_
    refine zr_getI hE eX11_throwsNew_92 fX11_106 (zH10).s0 rfl ?_
    refine zr_callV3 hE eX11_throwsNew_95 lX11_151 (zH10).s0 rfl rfl (by decide) (Nat.le_of_ble_eq_true rfl) (c_X5_isIn zH10 (vpn xl1 (by decide)) (vpn xl2 (by decide)) xk1 xk2 ?_)
    refine zr_bne hE eX11_throwsNew_98 (tgt := 124) (by decide) (fun zc98 => ?_) (fun zc98 => ?_)
    · refine zr_iincN hE eX11_throwsNew_124 rfl (by decide) rfl ?_
      refine zr_goto hE eX11_throwsNew_127 (tgt := 45) (by decide) ?_
      refine zr_mask hE [true, true, true, true, false, false] ?_
      refine ih (i + 1) _ s d u (by omega) (by omega) hof hT ?_
      rw [← hr, tnF, if_pos (by rw [← xla, ← xlb]; exact xyes zc98)]
    · have xz98 : ¬ fLi (hB w 10) la lb (w 10 8) = true := by rw [← xfl, zc98]; decide
      refine zr_iinc hE eX11_throwsNew_101 rfl rfl (by decide) rfl ?_
      refine zr_iload_n hE eX11_throwsNew_104 rfl ?_
      refine zr_iconst hE eX11_throwsNew_105 (v := 2) (by decide) ?_
      refine zr_kicmp_gt hE eX11_throwsNew_106 (tgt := 121) (by decide) (fun zc106 zd106 => ?_) (fun zc106 zd106 => ?_)
      · refine zr_bipush hE eX11_throwsNew_121 (v := -4) (by decide) ?_
        refine hR.2.1 _ _ _ _ _ _ eX11_throwsNew_123 rfl rfl ?_
        rw [tnF, if_neg (by rw [← xla, ← xlb]; exact xz98), if_pos (Or.inl (show 2 < g + 1 from zd106))] at hr
        rw [← hr] at hQ
        exact hQ u hof
      · refine zr_aload_n hE eX11_throwsNew_109 rfl ?_
        refine zr_iload hE eX11_throwsNew_110 rfl ?_
        refine zr_iload hE eX11_throwsNew_112 rfl ?_
        refine zr_iload_n hE eX11_throwsNew_114 rfl ?_
        refine zr_callV3 hE eX11_throwsNew_115 lX11_201 zs0 rfl rfl (by decide) (Nat.le_of_ble_eq_true rfl) (c_X11_isBridged (tri_N hof hN) xa xb (by rw [xo8]; exact Tri.cong (fun k b hk => (tri_B hof k b hk).symm) hT) (fun u2 s2 d2 hof2 hT2 => ?_))
        refine zr_bne hE eX11_throwsNew_118 (tgt := 124) (by decide) (fun zc118 => ?_) (fun zc118 => ?_)
        · refine zr_iincN hE eX11_throwsNew_124 rfl (by decide) rfl ?_
          refine zr_goto hE eX11_throwsNew_127 (tgt := 45) (by decide) ?_
          refine zr_mask hE [true, true, true, true, false, false] ?_
          refine ih (i + 1) _ s2 d2 u2 (by omega) (by omega) (fun p hp => (hof2 p hp).trans (hof p hp)) (Tri.cong (fun k b hk => tri_B hof k b hk) (by rw [← xo8]; exact hT2)) ?_
          rw [← hr, tnF, if_neg (by rw [← xla, ← xlb]; exact xz98), if_neg]
          · rfl
          · rw [← xla, ← xlb]
            exact fun q => q.elim zd106 (fun q => by rw [xbr zc118] at q; cases q)
        · refine zr_bipush hE eX11_throwsNew_121 (v := -4) (by decide) ?_
          refine hR.2.1 _ _ _ _ _ _ eX11_throwsNew_123 rfl rfl ?_
          rw [tnF, if_neg (by rw [← xla, ← xlb]; exact xz98), if_pos (Or.inr (by rw [← xla, ← xlb]; exact xbr zc118))] at hr
          rw [← hr] at hQ
          exact hQ u2 (fun p hp => (hof2 p hp).trans (hof p hp))
set_option maxHeartbeats 4000000 in
theorem c_X11_throwsNew {c : Nat} {w : ww} {Q : Option Value → ww → Prop} (hN : Now w c) (hQ1 : c = 0 → Q (some (.int (-4))) w) (hQ2 : 0 < c → ∀ u, SC w u → Q (some (.int (tnR (hB w 10) (w 10 8) c))) u)  : Ct mX11_throwsNew 7 [.ref 0] w Q := by
  refine Ct.of (by decide) (Nat.le_of_ble_eq_true rfl) (fun _ => Nat.le_of_ble_eq_true rfl) (fun G hR => ?_)
  have hE := hR.1
  refine zr_aload_n hE eX11_throwsNew_0 rfl ?_
  refine zr_getR hE eX11_throwsNew_1 fX11_42 zs0 rfl ?_
  refine zr_getI hE eX11_throwsNew_4 fX11_138 (zH10).s0 rfl ?_
  rw [hN.2.1]
  refine zr_if_ne hE eX11_throwsNew_7 (tgt := 13) (by decide) (fun zc7 => ?_) (fun zc7 => ?_)
  · refine zr_aload_n hE eX11_throwsNew_13 rfl ?_
    refine zr_getR hE eX11_throwsNew_14 fX11_42 zs0 rfl ?_
    refine zr_callV0 hE eX11_throwsNew_17 lX11_189 (zH10).s0 rfl rfl (by decide) (Nat.le_of_ble_eq_true rfl) (c_X5_arrange zH10 (c := c) (by have := hN.1; omega) hN.2.1 (Nowk hN) (fun u1 har hord => ?_))
    refine zr_aload_n hE eX11_throwsNew_20 rfl ?_
    have x17 : u1 10 7 = nI c := by rw [har 10 (by decide)]; exact hN.2.1
    refine zr_getR hE eX11_throwsNew_21 fX11_46 zs0 rfl ?_
    refine zr_aload_n hE eX11_throwsNew_24 rfl ?_
    refine zr_getR hE eX11_throwsNew_25 fX11_42 zs0 rfl ?_
    refine zr_callV1 hE eX11_throwsNew_28 lX11_192 (zH17).s0 rfl rfl (by decide) (Nat.le_of_ble_eq_true rfl) (c_X5_become zH17 zH10 (by decide) (fun xu xof x7 x8 xB => ?_))
    refine zr_aload_n hE eX11_throwsNew_31 rfl ?_
    refine zr_getR hE eX11_throwsNew_32 fX11_46 zs0 rfl ?_
    refine zr_iconst hE eX11_throwsNew_35 (v := 1) (by decide) ?_
    refine zr_iconst hE eX11_throwsNew_36 (v := 1) (by decide) ?_
    refine zr_callV2 hE eX11_throwsNew_37 lX11_195 (zH17).s0 rfl rfl (by decide) (Nat.le_of_ble_eq_true rfl) (c_X5_think zH17 (by rw [x7, x17]; exact vpn (by have := hN.1; omega) (by decide)) ?_)
    rw [x7, x17]
    refine zr_istore_n hE eX11_throwsNew_40 (by decide) rfl ?_
    refine zr_iconst hE eX11_throwsNew_41 (v := 0) (by decide) ?_
    refine zr_istore_n hE eX11_throwsNew_42 (by decide) rfl ?_
    refine zr_iconst hE eX11_throwsNew_43 (v := 1) (by decide) ?_
    refine zr_istore_n hE eX11_throwsNew_44 (by decide) rfl ?_
    have xc0 : 0 < c := Nat.pos_of_ne_zero (fun q => zc7 (by rw [q]; rfl))
    have e1 : (fun a b => fLi (hB u1 10) a b (u1 10 8)) = fun a b => fLi (hB w 10) a b (w 10 8) := by
      funext a b; rw [har 10 (by decide)]; exact fLi_off har a b _
    have e2 : brF (hB u1 10) (u1 10 8) c = brF (hB w 10) (w 10 8) c := by
      funext a b; rw [har 10 (by decide)]; exact brF_cong (fun k b hk => hB_off har hk b)
    have hT := Tri.of (B := hB u1 10) (v := u1 10 8) (s := 1) (d := 1) hN.1 (x7.trans x17) x8 (fun k b hk hb => xB k b hk hb)
    have hlm : ∀ i, i < c → (ordO (oB (hB w 10)) c).getD i 0 < c := fun i hi => by
      rw [List.getD_eq_getElem?_getD, List.getElem?_eq_getElem (by rw [ordO_len]; exact hi)]
      exact (ordO_mem _ _ _).mp (List.getElem_mem _)
    refine tn_lp (w := u1) (r := tnR (hB w 10) (w 10 8) c) hR ⟨hN.1, x17, fun b hb => by rw [har 11 (by decide)]; exact hN.2.2 b hb⟩ hord hlm (fun u hu => hQ2 xc0 u (fun p hp => ?_)) (c - 1) 0 0 1 1 _ (by omega) (by omega) (fun p hp => ?_) hT ?_
    · unfold Scr at hp
      rw [hu p (by unfold tri; omega), har p (by omega)]
    · rw [hPl_off hp]
      exact xof p (by unfold tri at hp; omega)
    · rw [e1, e2]; rfl
  · refine zr_bipush hE eX11_throwsNew_10 (v := -4) (by decide) ?_
    refine hR.2.1 _ _ _ _ _ _ eX11_throwsNew_12 rfl rfl ?_
    exact hQ1 ((nI_0i (by have := hN.1; omega)).mp zc7)

