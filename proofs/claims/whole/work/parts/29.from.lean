/-! from, isBridged: a new bowl is thought of. -/
def addB (B : zBv) (c : Nat) (s d : Int32) : zBv := fun k b => if b = c then (if k = 3 then s else if k = 4 then d else 0) else B k b
def Tri (B : zBv) (c : Nat) (v s d : Int32) (u : ww) : Prop := u 17 7 = nI (c + 1) ∧ u 17 8 = v ∧ ∀ k b, k < 5 → b ≤ c → hB u 17 k b = addB B c s d k b
theorem k5 {P : Nat → Prop} (h0 : P 0) (h1 : P 1) (h2 : P 2) (h3 : P 3) (h4 : P 4) : ∀ k, k < 5 → P k
  | 0, _ => h0
  | 1, _ => h1
  | 2, _ => h2
  | 3, _ => h3
  | 4, _ => h4
  | n + 5, h => absurd h (by omega)
theorem Tri.of {B : zBv} {c : Nat} {v s d : Int32} {u : ww} (hc : c ≤ 9) (h7 : u 17 7 = nI c) (h8 : u 17 8 = v) (hBb : ∀ k b, k < 5 → b < 10 → hB u 17 k b = B k b) : Tri B c v s d (hPl u 17 0 0 0 s d) := by
  refine ⟨?_, ?_, fun k b hk hb => ?_⟩
  · unfold hPl; rw [wu_eq, h7, nI_1]
  · unfold hPl; rw [wu_nj (by decide), wu_ne (by decide), wu_ne (by decide), wu_ne (by decide), wu_ne (by decide), wu_ne (by decide)]; exact h8
  · have e := hBb k b hk (by omega)
    unfold hPl hB addB at *
    rw [h7, nI_clamp (by omega), ← e]
    revert e
    revert k
    refine k5 ?_ ?_ ?_ ?_ ?_ <;> by_cases q : b = c <;> simp [wu, q]
theorem hPl_off {u : ww} {k f t s d : Int32} {p : Nat} (h : ¬ tri p) : hPl u 17 k f t s d p = u p := by
  unfold tri at h
  funext z
  unfold hPl
  rw [wu_ne (by omega), wu_ne (by omega), wu_ne (by omega), wu_ne (by omega), wu_ne (by omega), wu_ne (by omega)]
theorem Tri.fl {B : zBv} {c : Nat} {v s d : Int32} {u : ww} (h : Tri B c v s d u) {a b : Nat} (ha : a ≤ c) (hb : b ≤ c) : fLi (hB u 17) a b v = fLi (addB B c s d) a b v :=
  fLi_cong (fun k hk => h.2.2 k a hk ha) (fun k hk => h.2.2 k b hk hb)
theorem Tri.w {B : zBv} {c : Nat} {v s d s2 : Int32} {u : ww} (h : Tri B c v s d u) : Tri B c v s2 d (wu u 21 c s2) := by
  refine ⟨by rw [wu_ne (by decide)]; exact h.1, by rw [wu_ne (by decide)]; exact h.2.1, fun k b hk hb => ?_⟩
  have e := h.2.2 k b hk hb
  unfold hB addB at *
  revert e
  revert k
  refine k5 ?_ ?_ ?_ ?_ ?_ <;> by_cases q : b = c <;> simp [wu, q]
theorem Tri.d {B : zBv} {c : Nat} {v s d d2 : Int32} {u : ww} (h : Tri B c v s d u) : Tri B c v s d2 (wu u 22 c d2) := by
  refine ⟨by rw [wu_ne (by decide)]; exact h.1, by rw [wu_ne (by decide)]; exact h.2.1, fun k b hk hb => ?_⟩
  have e := h.2.2 k b hk hb
  unfold hB addB at *
  revert e
  revert k
  refine k5 ?_ ?_ ?_ ?_ ?_ <;> by_cases q : b = c <;> simp [wu, q]
theorem Tri.k {B : zBv} {c : Nat} {v s d : Int32} {u : ww} (h : Tri B c v s d u) (hk : ∀ b, b < c → vp_in (B 0 b) 8) : ∀ b, b < c + 1 → vp_in (u (17 + 1) b) 8 := by
  intro b hb
  have e := h.2.2 0 b (by decide) (by omega)
  unfold hB addB at e
  simp only [Nat.add_zero] at e
  rw [e]
  by_cases q : b = c
  · rw [if_pos q]; exact vpn (show 0 < 8 by decide) (by decide)
  · rw [if_neg q]; exact hk b (by omega)
theorem hgR_cong {lz lz2 : Nat → Nat → Bool} {ri ri2 de de2 : Nat → Int32} {mem : Nat → Bool} {c : Nat} (h1 : ∀ a b, a < c → b < c → lz a b = lz2 a b) (h2 : ∀ a, a < c → ri a = ri2 a) (h3 : ∀ a, a < c → de a = de2 a) :
    ∀ (l : List Nat) (inn : Option Nat) (hi : Int32), (∀ b ∈ l, b < c) → (∀ a, inn = some a → a < c) → hgR de (hgO lz ri mem l inn hi) = hgR de2 (hgO lz2 ri2 mem l inn hi)
  | [], none, hi, _, _ => rfl
  | [], some a, hi, _, ha => by simp only [hgO, hgR]; rw [h3 a (ha a rfl)]
  | b :: l, inn, hi, hl, ha => by
    have hb := hl b (by simp)
    have hl2 : ∀ x ∈ l, x < c := fun x hx => hl x (by simp [hx])
    have hs : ∀ a, some b = some a → a < c := fun a q => by cases q; exact hb
    by_cases hm : mem b = true
    · cases inn with
      | none => rw [hgO_n1 hm, hgO_n1 hm]; exact hgR_cong h1 h2 h3 l _ _ hl2 hs
      | some a =>
        have hac := ha a rfl
        have e1 := h1 a b hac hb
        cases hz : lz a b
        · rw [hgO_f hm hz, hgO_f hm (by rw [← e1]; exact hz)]; rfl
        · rw [hgO_s1 hm hz, hgO_s1 hm (by rw [← e1]; exact hz), h2 a hac]; exact hgR_cong h1 h2 h3 l _ _ hl2 hs
    · have hm := Bool.eq_false_iff.mpr hm
      rw [hgO_0 hm, hgO_0 hm]; exact hgR_cong h1 h2 h3 l _ _ hl2 ha
theorem oB_cong {B B' : zBv} {b : Nat} (h : ∀ k, k < 5 → B k b = B' k b) : oB B b = oB B' b := by
  unfold oB fOut; rw [h 0 (by decide), h 1 (by decide), h 2 (by decide), h 3 (by decide)]
theorem fHg_cong {B B' : zBv} {c : Nat} {v bits : Int32} (h : ∀ k b, k < 5 → b < c → B k b = B' k b) : fHg B v c bits = fHg B' v c bits := by
  unfold fHg
  rw [ordO_cong c (fun b hb => oB_cong (fun k hk => h k b hk hb))]
  exact hgR_cong (c := c) (fun a b ha hb => fLi_cong (fun k hk => h k a hk ha) (fun k hk => h k b hk hb)) (fun a ha => fRi_cong (fun k hk => h k a hk ha)) (fun a ha => h 4 a (by decide) ha) _ _ _ (fun b hb => (ordO_mem _ _ _).mp hb) (fun a q => by cases q)
def frH (B : zBv) (v : Int32) (c : Nat) (s d a : Int32) : Int32 := fHg (addB B c s d) v (c + 1) (a ||| (1 <<< (nI c &&& 31)))
def frR (B : zBv) (v : Int32) (c : Nat) (a b s d : Int32) : Int32 := if 0 < frH B v c s d b then (if 0 < frH B v c s d a then 3 else 2) else if 0 < frH B v c s d a then 1 else 0
set_option maxHeartbeats 4000000 in
theorem c_X11_from {c : Nat} {a b s d : Int32} {w : ww} {Q : Option Value → ww → Prop} (hN : Now w c) (hQ1 : ¬ ((∃ t, t < 2 ^ c ∧ a = nI t) ∧ (∃ t, t < 2 ^ c ∧ b = nI t) ∧ a &&& b = 0 ∧ fIs s 1 99 = true ∧ fIs d 1 99 = true) → Q (some (.int (-1))) w) (hQ2 : ((∃ t, t < 2 ^ c ∧ a = nI t) ∧ (∃ t, t < 2 ^ c ∧ b = nI t) ∧ a &&& b = 0 ∧ fIs s 1 99 = true ∧ fIs d 1 99 = true) → ∀ u, SC w u → Q (some (.int (frR (hB w 10) (w 10 8) c a b s d))) u)  : Ct mX11_from 7 [.ref 0, .int a, .int b, .int s, .int d] w Q := by
  refine Ct.of (by decide) (Nat.le_of_ble_eq_true rfl) (fun _ => Nat.le_of_ble_eq_true rfl) (fun G hR => ?_)
  have hE := hR.1
  refine zr_aload_n hE eX11_from_0 rfl ?_
  refine zr_iload_n hE eX11_from_1 rfl ?_
  refine zr_callV1 hE eX11_from_2 lX11_154 zs0 rfl rfl (by decide) (Nat.le_of_ble_eq_true rfl) (c_X11_areBowls ?_)
  refine zr_beq hE eX11_from_5 (tgt := 37) (by decide) (fun zc5 => ?_) (fun zc5 => ?_)
  · refine zr_iconst hE eX11_from_37 (v := -1) (by decide) ?_
    refine hR.2.1 _ _ _ _ _ _ eX11_from_38 rfl rfl ?_
    refine hQ1 (fun xq => ?_)
    obtain ⟨q1, q2, q3, q4, q5⟩ := xq
    rw [← areB hN.1, ← hN.2.1] at q1 q2
    simp_all
  · refine zr_aload_n hE eX11_from_8 rfl ?_
    refine zr_iload_n hE eX11_from_9 rfl ?_
    refine zr_callV1 hE eX11_from_10 lX11_154 zs0 rfl rfl (by decide) (Nat.le_of_ble_eq_true rfl) (c_X11_areBowls ?_)
    refine zr_beq hE eX11_from_13 (tgt := 37) (by decide) (fun zc13 => ?_) (fun zc13 => ?_)
    · refine zr_iconst hE eX11_from_37 (v := -1) (by decide) ?_
      refine hR.2.1 _ _ _ _ _ _ eX11_from_38 rfl rfl ?_
      refine hQ1 (fun xq => ?_)
      obtain ⟨q1, q2, q3, q4, q5⟩ := xq
      rw [← areB hN.1, ← hN.2.1] at q1 q2
      simp_all
    · refine zr_iload_n hE eX11_from_16 rfl ?_
      refine zr_iload_n hE eX11_from_17 rfl ?_
      refine zr_iand hE eX11_from_18 ?_
      refine zr_if_ne hE eX11_from_19 (tgt := 37) (by decide) (fun zc19 => ?_) (fun zc19 => ?_)
      · refine zr_iconst hE eX11_from_37 (v := -1) (by decide) ?_
        refine hR.2.1 _ _ _ _ _ _ eX11_from_38 rfl rfl ?_
        refine hQ1 (fun xq => ?_)
        obtain ⟨q1, q2, q3, q4, q5⟩ := xq
        rw [← areB hN.1, ← hN.2.1] at q1 q2
        simp_all
      · refine zr_iload_n hE eX11_from_22 rfl ?_
        refine zr_callS1 hE eX11_from_23 lX11_120 (by decide) (Nat.le_of_ble_eq_true rfl) (c_X11_areHairs ?_)
        refine zr_beq hE eX11_from_26 (tgt := 37) (by decide) (fun zc26 => ?_) (fun zc26 => ?_)
        · refine zr_iconst hE eX11_from_37 (v := -1) (by decide) ?_
          refine hR.2.1 _ _ _ _ _ _ eX11_from_38 rfl rfl ?_
          refine hQ1 (fun xq => ?_)
          obtain ⟨q1, q2, q3, q4, q5⟩ := xq
          rw [← areB hN.1, ← hN.2.1] at q1 q2
          simp_all
        · refine zr_iload hE eX11_from_29 rfl ?_
          refine zr_callS1 hE eX11_from_31 lX11_120 (by decide) (Nat.le_of_ble_eq_true rfl) (c_X11_areHairs ?_)
          refine zr_bne hE eX11_from_34 (tgt := 39) (by decide) (fun zc34 => ?_) (fun zc34 => ?_)
          · have xa : ∃ t, t < 2 ^ c ∧ a = nI t := by
              have q := zc5
              rw [hN.2.1, decide_eq_true_eq, areB hN.1] at q; exact q
            have xb : ∃ t, t < 2 ^ c ∧ b = nI t := by
              have q := zc13
              rw [hN.2.1, decide_eq_true_eq, areB hN.1] at q; exact q
            have xc : a &&& b = 0 := by simpa using zc19
            have xs : fIs s 1 99 = true := by simpa using zc26
            have xd : fIs d 1 99 = true := by simpa using zc34
            refine zr_aload_n hE eX11_from_39 rfl ?_
            refine zr_getR hE eX11_from_40 fX11_46 zs0 rfl ?_
            refine zr_aload_n hE eX11_from_43 rfl ?_
            refine zr_getR hE eX11_from_44 fX11_42 zs0 rfl ?_
            refine zr_callV1 hE eX11_from_47 lX11_192 (zH17).s0 rfl rfl (by decide) (Nat.le_of_ble_eq_true rfl) (c_X5_become zH17 zH10 (by decide) (fun xu xof x7 x8 xB => ?_))
            refine zr_iconst hE eX11_from_50 (v := 1) (by decide) ?_
            refine zr_aload_n hE eX11_from_51 rfl ?_
            refine zr_getR hE eX11_from_52 fX11_46 zs0 rfl ?_
            refine zr_iload_n hE eX11_from_55 rfl ?_
            refine zr_iload hE eX11_from_56 rfl ?_
            refine zr_callV2 hE eX11_from_58 lX11_195 (zH17).s0 rfl rfl (by decide) (Nat.le_of_ble_eq_true rfl) (c_X5_think zH17 (by rw [x7, hN.2.1]; exact vpn (by have := hN.1; omega) (by decide)) ?_)
            have xT0 : Tri (hB w 10) c (w 10 8) s d (hPl xu 17 0 0 0 s d) := Tri.of hN.1 (by rw [x7]; exact hN.2.1) x8 (fun k b hk hb => xB k b hk hb)
            rw [x7, hN.2.1]
            refine zr_ishl hE eX11_from_61 ?_
            refine zr_istore hE eX11_from_62 (by decide) rfl ?_
            refine zr_iconst hE eX11_from_64 (v := 0) (by decide) ?_
            refine zr_istore hE eX11_from_65 (by decide) rfl ?_
            refine zr_aload_n hE eX11_from_67 rfl ?_
            refine zr_getR hE eX11_from_68 fX11_46 zs0 rfl ?_
            refine zr_iload_n hE eX11_from_71 rfl ?_
            refine zr_iload hE eX11_from_72 rfl ?_
            refine zr_ior hE eX11_from_74 ?_
            refine zr_callV1 hE eX11_from_75 lX11_157 (zH17).s0 rfl rfl (by decide) (Nat.le_of_ble_eq_true rfl) (c_X5_heightOf zH17 (c := c + 1) (by have := hN.1; omega) xT0.1 (xT0.k (Nowk hN)) (fun u1 xg1 => ?_))
            have xT1 : Tri (hB w 10) c (w 10 8) s d u1 := by
              refine ⟨by rw [xg1 17 (by decide)]; exact xT0.1, by rw [xg1 17 (by decide)]; exact xT0.2.1, fun k b hk hb => ?_⟩
              have e := xT0.2.2 k b hk hb
              unfold hB at e ⊢
              rw [xg1 _ (by omega)]; exact e
            have xh1 : fHg (hB (hPl xu 17 0 0 0 s d) 17) (hPl xu 17 0 0 0 s d 17 8) (c + 1) (a ||| (1 <<< (nI c &&& 31))) = frH (hB w 10) (w 10 8) c s d a := by
              unfold frH
              rw [xT0.2.1]
              exact fHg_cong (fun k b hk hb => xT0.2.2 k b hk (by omega))
            rw [xh1]
            refine zr_kif_le hE eX11_from_78 (tgt := 84) (by decide) (fun zc78 zd78 => ?_) (fun zc78 zd78 => ?_)
            · refine zr_aload_n hE eX11_from_84 rfl ?_
              refine zr_getR hE eX11_from_85 fX11_46 zs0 rfl ?_
              refine zr_iload_n hE eX11_from_88 rfl ?_
              refine zr_iload hE eX11_from_89 rfl ?_
              refine zr_ior hE eX11_from_91 ?_
              refine zr_callV1 hE eX11_from_92 lX11_157 (zH17).s0 rfl rfl (by decide) (Nat.le_of_ble_eq_true rfl) (c_X5_heightOf zH17 (c := c + 1) (by have := hN.1; omega) xT1.1 (xT1.k (Nowk hN)) (fun u2 xg2 => ?_))
              have xT2 : Tri (hB w 10) c (w 10 8) s d u2 := by
                refine ⟨by rw [xg2 17 (by decide)]; exact xT1.1, by rw [xg2 17 (by decide)]; exact xT1.2.1, fun k b hk hb => ?_⟩
                have e := xT1.2.2 k b hk hb
                unfold hB at e ⊢
                rw [xg2 _ (by omega)]; exact e
              have xh2 : fHg (hB u1 17) (u1 17 8) (c + 1) (b ||| (1 <<< (nI c &&& 31))) = frH (hB w 10) (w 10 8) c s d b := by
                unfold frH
                rw [xT1.2.1]
                exact fHg_cong (fun k b hk hb => xT1.2.2 k b hk (by omega))
              rw [xh2]
              refine zr_kif_le hE eX11_from_95 (tgt := 101) (by decide) (fun zc95 zd95 => ?_) (fun zc95 zd95 => ?_)
              · refine zr_iload hE eX11_from_101 rfl ?_
                refine hR.2.1 _ _ _ _ _ _ eX11_from_103 rfl rfl ?_
                refine zq (hQ2 ⟨xa, xb, xc, xs, xd⟩ u2 (fun p hp => ?_)) ?_
                · unfold Scr at hp
                  rw [xg2 p (by omega), xg1 p (by omega), hPl_off (by unfold tri; omega), xof p (by omega)]
                · unfold frR; rw [if_neg zc95, if_neg zc78] <;> rfl
              · refine zr_iinc hE eX11_from_98 rfl rfl (by decide) rfl ?_
                refine zr_iload hE eX11_from_101 rfl ?_
                refine hR.2.1 _ _ _ _ _ _ eX11_from_103 rfl rfl ?_
                refine zq (hQ2 ⟨xa, xb, xc, xs, xd⟩ u2 (fun p hp => ?_)) ?_
                · unfold Scr at hp
                  rw [xg2 p (by omega), xg1 p (by omega), hPl_off (by unfold tri; omega), xof p (by omega)]
                · unfold frR; rw [if_pos zc95, if_neg zc78] <;> rfl
            · refine zr_iinc hE eX11_from_81 rfl rfl (by decide) rfl ?_
              refine zr_aload_n hE eX11_from_84 rfl ?_
              refine zr_getR hE eX11_from_85 fX11_46 zs0 rfl ?_
              refine zr_iload_n hE eX11_from_88 rfl ?_
              refine zr_iload hE eX11_from_89 rfl ?_
              refine zr_ior hE eX11_from_91 ?_
              refine zr_callV1 hE eX11_from_92 lX11_157 (zH17).s0 rfl rfl (by decide) (Nat.le_of_ble_eq_true rfl) (c_X5_heightOf zH17 (c := c + 1) (by have := hN.1; omega) xT1.1 (xT1.k (Nowk hN)) (fun u2 xg2 => ?_))
              have xT2 : Tri (hB w 10) c (w 10 8) s d u2 := by
                refine ⟨by rw [xg2 17 (by decide)]; exact xT1.1, by rw [xg2 17 (by decide)]; exact xT1.2.1, fun k b hk hb => ?_⟩
                have e := xT1.2.2 k b hk hb
                unfold hB at e ⊢
                rw [xg2 _ (by omega)]; exact e
              have xh2 : fHg (hB u1 17) (u1 17 8) (c + 1) (b ||| (1 <<< (nI c &&& 31))) = frH (hB w 10) (w 10 8) c s d b := by
                unfold frH
                rw [xT1.2.1]
                exact fHg_cong (fun k b hk hb => xT1.2.2 k b hk (by omega))
              rw [xh2]
              refine zr_kif_le hE eX11_from_95 (tgt := 101) (by decide) (fun zc95 zd95 => ?_) (fun zc95 zd95 => ?_)
              · refine zr_iload hE eX11_from_101 rfl ?_
                refine hR.2.1 _ _ _ _ _ _ eX11_from_103 rfl rfl ?_
                refine zq (hQ2 ⟨xa, xb, xc, xs, xd⟩ u2 (fun p hp => ?_)) ?_
                · unfold Scr at hp
                  rw [xg2 p (by omega), xg1 p (by omega), hPl_off (by unfold tri; omega), xof p (by omega)]
                · unfold frR; rw [if_neg zc95, if_pos zc78] <;> rfl
              · refine zr_iinc hE eX11_from_98 rfl rfl (by decide) rfl ?_
                refine zr_iload hE eX11_from_101 rfl ?_
                refine hR.2.1 _ _ _ _ _ _ eX11_from_103 rfl rfl ?_
                refine zq (hQ2 ⟨xa, xb, xc, xs, xd⟩ u2 (fun p hp => ?_)) ?_
                · unfold Scr at hp
                  rw [xg2 p (by omega), xg1 p (by omega), hPl_off (by unfold tri; omega), xof p (by omega)]
                · unfold frR; rw [if_pos zc95, if_pos zc78] <;> rfl
          · refine zr_iconst hE eX11_from_37 (v := -1) (by decide) ?_
            refine hR.2.1 _ _ _ _ _ _ eX11_from_38 rfl rfl ?_
            refine hQ1 (fun xq => ?_)
            obtain ⟨q1, q2, q3, q4, q5⟩ := xq
            rw [← areB hN.1, ← hN.2.1] at q1 q2
            simp_all

def brF (B : zBv) (v : Int32) (c a b : Nat) : Bool := if 99 < fOut B a (B 3 a) + 2 + v then false else fLi (addB B c (fOut B a (B 3 a) + 2 + v) (B 4 a)) a c v && fLi (addB B c (fOut B a (B 3 a) + 2 + v) (B 4 a)) c b v
set_option maxHeartbeats 4000000 in
theorem c_X11_isBridged {c a b : Nat} {s d : Int32} {w : ww} {Q : Option Value → ww → Prop} (hN : Now w c) (ha : a < c) (hb : b < c) (hT : Tri (hB w 10) c (w 10 8) s d w) (hQ : ∀ u s d, (∀ p, ¬ tri p → u p = w p) → Tri (hB w 10) c (w 10 8) s d u → Q (some (.int (bi (brF (hB w 10) (w 10 8) c a b)))) u)  : Ct mX11_isBridged 6 [.ref 0, .int (nI a), .int (nI b), .int (nI c)] w Q := by
  refine Ct.of (by decide) (Nat.le_of_ble_eq_true rfl) (fun _ => Nat.le_of_ble_eq_true rfl) (fun G hR => ?_)
  have hE := hR.1
  have xa : a < 10 := by have := hN.1; omega
  have xb : b < 10 := by have := hN.1; omega
  have xc : c < 10 := by have := hN.1; omega
  have xka : vp_in (w (10 + 1) (nI a).toNatClampNeg) 8 := by rw [nI_clamp (by omega)]; exact hN.2.2 a ha
  have xia : (nI a).toNatClampNeg = a := nI_clamp (by omega)
  have xib : (nI b).toNatClampNeg = b := nI_clamp (by omega)
  have xic : (nI c).toNatClampNeg = c := nI_clamp (by omega)
  have xT1 : ∀ v, Tri (hB w 10) c (w 10 8) v d (wu w 21 c v) := fun v => hT.w
  have xT2 : ∀ v, Tri (hB w 10) c (w 10 8) v (w 15 a) (wu (wu w 21 c v) 22 c (w 15 a)) := fun v => (xT1 v).d
  have xo2 : ∀ v p, ¬ tri p → wu (wu w 21 c v) 22 c (w 15 a) p = w p := fun v p hp => by
    unfold tri at hp; funext z; rw [wu_ne (by omega), wu_ne (by omega)]
  have xK := fun v => (xT2 v).k (Nowk hN)
  refine zr_aload_n hE eX11_isBridged_0 rfl ?_
  refine zr_getR hE eX11_isBridged_1 fX11_42 zs0 rfl ?_
  refine zr_iload_n hE eX11_isBridged_4 rfl ?_
  refine zr_aload_n hE eX11_isBridged_5 rfl ?_
  refine zr_getR hE eX11_isBridged_6 fX11_42 zs0 rfl ?_
  refine zr_getR hE eX11_isBridged_9 fX11_96 (zH10).s0 rfl ?_
  refine zr_iload_n hE eX11_isBridged_12 rfl ?_
  refine zr_iald hE eX11_isBridged_13 (zH10).s4 (vpn xa (by decide)) ?_
  refine zr_callV2 hE eX11_isBridged_14 lX11_102 (zH10).s0 rfl rfl (by decide) (Nat.le_of_ble_eq_true rfl) (c_X5_outsideAt zH10 (vpn xa (by decide)) xka ?_)
  simp only [xia]
  refine zr_iconst hE eX11_isBridged_17 (v := 2) (by decide) ?_
  refine zr_iadd hE eX11_isBridged_18 ?_
  refine zr_aload_n hE eX11_isBridged_19 rfl ?_
  refine zr_getR hE eX11_isBridged_20 fX11_42 zs0 rfl ?_
  refine zr_getI hE eX11_isBridged_23 fX11_106 (zH10).s0 rfl ?_
  refine zr_iadd hE eX11_isBridged_26 ?_
  refine zr_istore hE eX11_isBridged_27 (by decide) rfl ?_
  refine zr_iload hE eX11_isBridged_29 rfl ?_
  refine zr_bipush hE eX11_isBridged_31 (v := 99) (by decide) ?_
  refine zr_kicmp_le hE eX11_isBridged_33 (tgt := 38) (by decide) (fun zc33 zd33 => ?_) (fun zc33 zd33 => ?_)
  · refine zr_aload_n hE eX11_isBridged_38 rfl ?_
    refine zr_getR hE eX11_isBridged_39 fX11_46 zs0 rfl ?_
    refine zr_getR hE eX11_isBridged_42 fX11_96 (zH17).s0 rfl ?_
    refine zr_iload_n hE eX11_isBridged_45 rfl ?_
    refine zr_iload hE eX11_isBridged_46 rfl ?_
    refine zr_iast hE eX11_isBridged_48 (zH17).s4 (vpn xc (by decide)) ?_
    simp only [xic]
    refine zr_aload_n hE eX11_isBridged_49 rfl ?_
    refine zr_getR hE eX11_isBridged_50 fX11_46 zs0 rfl ?_
    refine zr_getR hE eX11_isBridged_53 fX11_99 (zH17).s0 rfl ?_
    refine zr_iload_n hE eX11_isBridged_56 rfl ?_
    refine zr_aload_n hE eX11_isBridged_57 rfl ?_
    refine zr_getR hE eX11_isBridged_58 fX11_42 zs0 rfl ?_
    refine zr_getR hE eX11_isBridged_61 fX11_99 (zH10).s0 rfl ?_
    refine zr_iload_n hE eX11_isBridged_64 rfl ?_
    refine zr_iald hE eX11_isBridged_65 (zH10).s5 (vpn xa (by decide)) ?_
    refine zr_iast hE eX11_isBridged_66 (zH17).s5 (vpn xc (by decide)) ?_
    simp only [xia, xic]
    rw [wu_ne (show (15 : Nat) ≠ 21 by decide)]
    have xT3 := xT2 (fOut (hB w 10) a (w 14 a) + 2 + w 10 8)
    have xo3 := xo2 (fOut (hB w 10) a (w 14 a) + 2 + w 10 8)
    have xla : vp_in (wu (wu w 21 c (fOut (hB w 10) a (w 14 a) + 2 + w 10 8)) 22 c (w 15 a) (17 + 1) (nI a).toNatClampNeg) 8 := by rw [xia]; exact xK _ a (by omega)
    have xlb : vp_in (wu (wu w 21 c (fOut (hB w 10) a (w 14 a) + 2 + w 10 8)) 22 c (w 15 a) (17 + 1) (nI b).toNatClampNeg) 8 := by rw [xib]; exact xK _ b (by omega)
    have xlc : vp_in (wu (wu w 21 c (fOut (hB w 10) a (w 14 a) + 2 + w 10 8)) 22 c (w 15 a) (17 + 1) (nI c).toNatClampNeg) 8 := by rw [xic]; exact xK _ c (by omega)
    refine zr_aload_n hE eX11_isBridged_67 rfl ?_
    refine zr_getR hE eX11_isBridged_68 fX11_46 zs0 rfl ?_
    refine zr_iload_n hE eX11_isBridged_71 rfl ?_
    refine zr_iload_n hE eX11_isBridged_72 rfl ?_
    refine zr_aload_n hE eX11_isBridged_73 rfl ?_
    refine zr_getR hE eX11_isBridged_74 fX11_42 zs0 rfl ?_
    refine zr_getI hE eX11_isBridged_77 fX11_106 (zH10).s0 rfl ?_
    refine zr_callV3 hE eX11_isBridged_80 lX11_151 (zH17).s0 rfl rfl (by decide) (Nat.le_of_ble_eq_true rfl) (c_X5_isIn zH17 (vpn xa (by decide)) (vpn xc (by decide)) xla xlc ?_)
    refine zr_beq hE eX11_isBridged_83 (tgt := 109) (by decide) (fun zc83 => ?_) (fun zc83 => ?_)
    · refine zr_iconst hE eX11_isBridged_109 (v := 0) (by decide) ?_
      refine hR.2.1 _ _ _ _ _ _ eX11_isBridged_110 rfl rfl ?_
      refine zq (hQ _ _ _ xo3 xT3) ?_
      have xf1 : fLi (addB (hB w 10) c (fOut (hB w 10) a (w 14 a) + 2 + w 10 8) (w 15 a)) a c (w 10 8) = false := by
        have q := zc83
        rw [xia, xic] at q
        rw [← xT3.fl (by omega) (Nat.le_refl _)]; exact q
      unfold brF
      rw [if_neg (show ¬ 99 < fOut (hB w 10) a (hB w 10 3 a) + 2 + w 10 8 from zc33)]
      show bi (fLi (addB (hB w 10) c (fOut (hB w 10) a (w 14 a) + 2 + w 10 8) (w 15 a)) a c (w 10 8) && fLi (addB (hB w 10) c (fOut (hB w 10) a (w 14 a) + 2 + w 10 8) (w 15 a)) c b (w 10 8)) = _
      simp only [*, Bool.and_true, Bool.true_and, Bool.false_and, Bool.and_false]; rfl
    · refine zr_aload_n hE eX11_isBridged_86 rfl ?_
      refine zr_getR hE eX11_isBridged_87 fX11_46 zs0 rfl ?_
      refine zr_iload_n hE eX11_isBridged_90 rfl ?_
      refine zr_iload_n hE eX11_isBridged_91 rfl ?_
      refine zr_aload_n hE eX11_isBridged_92 rfl ?_
      refine zr_getR hE eX11_isBridged_93 fX11_42 zs0 rfl ?_
      refine zr_getI hE eX11_isBridged_96 fX11_106 (zH10).s0 rfl ?_
      refine zr_callV3 hE eX11_isBridged_99 lX11_151 (zH17).s0 rfl rfl (by decide) (Nat.le_of_ble_eq_true rfl) (c_X5_isIn zH17 (vpn xc (by decide)) (vpn xb (by decide)) xlc xlb ?_)
      refine zr_beq hE eX11_isBridged_102 (tgt := 109) (by decide) (fun zc102 => ?_) (fun zc102 => ?_)
      · refine zr_iconst hE eX11_isBridged_109 (v := 0) (by decide) ?_
        refine hR.2.1 _ _ _ _ _ _ eX11_isBridged_110 rfl rfl ?_
        refine zq (hQ _ _ _ xo3 xT3) ?_
        have xf1 : fLi (addB (hB w 10) c (fOut (hB w 10) a (w 14 a) + 2 + w 10 8) (w 15 a)) a c (w 10 8) = true := by
          have q := zc83
          rw [xia, xic] at q
          rw [← xT3.fl (by omega) (Nat.le_refl _)]; exact q
        have xf2 : fLi (addB (hB w 10) c (fOut (hB w 10) a (w 14 a) + 2 + w 10 8) (w 15 a)) c b (w 10 8) = false := by
          have q := zc102
          rw [xib, xic] at q
          rw [← xT3.fl (Nat.le_refl _) (by omega)]; exact q
        unfold brF
        rw [if_neg (show ¬ 99 < fOut (hB w 10) a (hB w 10 3 a) + 2 + w 10 8 from zc33)]
        show bi (fLi (addB (hB w 10) c (fOut (hB w 10) a (w 14 a) + 2 + w 10 8) (w 15 a)) a c (w 10 8) && fLi (addB (hB w 10) c (fOut (hB w 10) a (w 14 a) + 2 + w 10 8) (w 15 a)) c b (w 10 8)) = _
        simp only [*, Bool.and_true, Bool.true_and, Bool.false_and, Bool.and_false]; rfl
      · refine zr_iconst hE eX11_isBridged_105 (v := 1) (by decide) ?_
        refine zr_goto hE eX11_isBridged_106 (tgt := 110) (by decide) ?_
        refine hR.2.1 _ _ _ _ _ _ eX11_isBridged_110 rfl rfl ?_
        refine zq (hQ _ _ _ xo3 xT3) ?_
        have xf1 : fLi (addB (hB w 10) c (fOut (hB w 10) a (w 14 a) + 2 + w 10 8) (w 15 a)) a c (w 10 8) = true := by
          have q := zc83
          rw [xia, xic] at q
          rw [← xT3.fl (by omega) (Nat.le_refl _)]; exact q
        have xf2 : fLi (addB (hB w 10) c (fOut (hB w 10) a (w 14 a) + 2 + w 10 8) (w 15 a)) c b (w 10 8) = true := by
          have q := zc102
          rw [xib, xic] at q
          rw [← xT3.fl (Nat.le_refl _) (by omega)]; exact q
        unfold brF
        rw [if_neg (show ¬ 99 < fOut (hB w 10) a (hB w 10 3 a) + 2 + w 10 8 from zc33)]
        show bi (fLi (addB (hB w 10) c (fOut (hB w 10) a (w 14 a) + 2 + w 10 8) (w 15 a)) a c (w 10 8) && fLi (addB (hB w 10) c (fOut (hB w 10) a (w 14 a) + 2 + w 10 8) (w 15 a)) c b (w 10 8)) = _
        simp only [*, Bool.and_true, Bool.true_and, Bool.false_and, Bool.and_false]; rfl
  · refine zr_iconst hE eX11_isBridged_36 (v := 0) (by decide) ?_
    refine hR.2.1 _ _ _ _ _ _ eX11_isBridged_37 rfl rfl ?_
    refine zq (hQ w s d (fun _ _ => rfl) hT) ?_
    unfold brF
    rw [if_pos (show 99 < fOut (hB w 10) a (hB w 10 3 a) + 2 + w 10 8 from zc33)]; rfl

