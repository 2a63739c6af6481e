/-! More of the class's public methods. -/
theorem FN_lt2 {lz : Nat → Nat → Bool} {de ri : Nat → Int32} {c : Nat} {l : List Nat} (hl : ∀ b ∈ l, b < c) {e : zE3} (he : e ∈ FN lz de ri c l) : e.1 < 2 ^ c := by
  refine Nat.lt_pow_two_of_testBit e.1 (fun i hi => ?_)
  cases q : e.1.testBit i
  · rfl
  · have := hl i ((FN_in lz de ri c l e he).2.2 i q)
    omega
theorem fFo_lt {B : zBv} {v : Int32} {c : Nat} {e : zE3} (he : e ∈ fFo B v c) : e.1 < 2 ^ c := FN_lt2 (fun b hb => (ordO_mem _ _ _).mp hb) he
theorem fFo_len {B : zBv} {v : Int32} {c : Nat} (hc : c ≤ 9) : (fFo B v c).length ≤ 511 := by
  have h1 := FN_len (fun a b => fLi B a b v) (B 4) (fRi B) c (ordO (oB B) c)
  rw [ordO_len] at h1
  have h2 : 2 ^ c ≤ 2 ^ 9 := Nat.pow_le_pow_right (by decide) hc
  unfold fFo fFN
  omega
theorem lgr_cong {H H' : Nat → Int32} {s t : Nat} (h1 : H s = H' s) (h2 : H t = H' t) : lgr H s t = lgr H' s t := by unfold lgr; rw [h1, h2]
theorem lgF_cong {H H' : Nat → Int32} {t n : Nat} (h : ∀ s, s < n → H s = H' s) : ∀ (l : List Nat) (b : Nat), (∀ s ∈ l, s < n) → b < n → lgF H t l b = lgF H' t l b
  | [], b, _, _ => rfl
  | s :: l, b, hl, hb => by
    have hs := hl s (by simp)
    rw [lgF, lgF, lgr_cong (h s hs) (h b hb)]
    refine lgF_cong h l _ (fun x hx => hl x (by simp [hx])) ?_
    split
    · exact hs
    · exact hb
theorem lgF_in {H : Nat → Int32} {t n : Nat} : ∀ (l : List Nat) (b : Nat), (∀ s ∈ l, s < n) → b < n → lgF H t l b < n
  | [], b, _, hb => hb
  | s :: l, b, hl, hb => by
    rw [lgF]
    refine lgF_in l _ (fun x hx => hl x (by simp [hx])) ?_
    split
    · exact hl s (by simp)
    · exact hb
theorem fLg_lt {B : zBv} {v : Int32} {c t : Nat} : fLg B v c t < 2 ^ c := lgF_in _ _ (fun s hs => by
  obtain ⟨e, he, rfl⟩ := List.mem_map.mp hs
  exact fFo_lt he) (Nat.pow_pos (by decide))
theorem Fnd.lg {w u : ww} {c t : Nat} (hF : Fnd w u c) : lgF (u 32) t ((fFo (hB w 10) (w 10 8) c).map (·.1)) 0 = fLg (hB w 10) (w 10 8) c t :=
  lgF_cong (n := 2 ^ c) (fun s hs => hF.2.2.2.2.1 s hs) _ _ (fun s hs => by
    obtain ⟨e, he, rfl⟩ := List.mem_map.mp hs
    exact fFo_lt he) (Nat.pow_pos (by decide))
theorem apB_cong {A A' : Nat → Int32} {s : Nat} : ∀ (c : Nat), (∀ b, b < c → A b = A' b) → apB A s c = apB A' s c
  | 0, _ => rfl
  | c + 1, h => by rw [apB, apB, apB_cong c (fun b hb => h b (by omega)), h c (by omega)]
theorem apF_cong {A A' : Nat → Int32} {c : Nat} (h : ∀ b, b < c → A b = A' b) : ∀ (k s b : Nat), apF A c k s b = apF A' c k s b
  | 0, _, _ => rfl
  | k + 1, s, b => by rw [apF, apF, apB_cong c h, apF_cong h k]
theorem apF_lt {A : Nat → Int32} {c n : Nat} : ∀ (k s b : Nat), s + k ≤ n → b < n → apF A c k s b < n
  | 0, _, _, _, hb => hb
  | k + 1, s, b, hs, hb => by
    rw [apF]
    refine apF_lt k (s + 1) _ (by omega) ?_
    split <;> omega
theorem fAp_lt {B : zBv} {v : Int32} {c : Nat} : fAp B v c < 2 ^ c := by
  have h2 : 0 < 2 ^ c := Nat.pow_pos (by decide)
  exact apF_lt _ _ _ (by unfold fM; omega) h2
theorem p29 {c : Nat} (hc : c ≤ 9) : 2 ^ c ≤ 512 := Nat.pow_le_pow_right (n := 2) (by decide) hc
set_option maxHeartbeats 4000000 in
theorem c_X11_longest {c : Nat} {b k : Int32} {w : ww} {Q : Option Value → ww → Prop} (hN : Now w c) (hQ1 : (¬ ∃ t, t < 2 ^ c ∧ b = nI t) ∨ fIs k 0 1 = false → Q (some (.int (-1))) w) (hQ2 : ∀ t, t < 2 ^ c → b = nI t → fIs k 0 1 = true → ∀ u, SC w u → Q (some (.int (if k = 0 then nI (fLg (hB w 10) (w 10 8) c t) else nI (pop (fLg (hB w 10) (w 10 8) c t) 10)))) u)  : Ct mX11_longest 8 [.ref 0, .int b, .int k] w Q := by
  refine Ct.of (by decide) (Nat.le_of_ble_eq_true rfl) (fun _ => Nat.le_of_ble_eq_true rfl) (fun G hR => ?_)
  have hE := hR.1
  refine zr_aload_n hE eX11_longest_0 rfl ?_
  refine zr_iload_n hE eX11_longest_1 rfl ?_
  refine zr_callV1 hE eX11_longest_2 lX11_154 zs0 rfl rfl (by decide) (Nat.le_of_ble_eq_true rfl) (c_X11_areBowls ?_)
  refine zr_beq hE eX11_longest_5 (tgt := 17) (by decide) (fun zc5 => ?_) (fun zc5 => ?_)
  · refine zr_iconst hE eX11_longest_17 (v := -1) (by decide) ?_
    refine hR.2.1 _ _ _ _ _ _ eX11_longest_18 rfl rfl ?_
    refine hQ1 (Or.inl (fun q => ?_))
    rw [hN.2.1, decide_eq_false_iff_not, areB hN.1] at zc5
    exact zc5 q
  · refine zr_iload_n hE eX11_longest_8 rfl ?_
    refine zr_iconst hE eX11_longest_9 (v := 0) (by decide) ?_
    refine zr_iconst hE eX11_longest_10 (v := 1) (by decide) ?_
    refine zr_callS3 hE eX11_longest_11 lX11_123 (by decide) (Nat.le_of_ble_eq_true rfl) (c_X11_isWithin ?_)
    refine zr_bne hE eX11_longest_14 (tgt := 19) (by decide) (fun zc14 => ?_) (fun zc14 => ?_)
    · rw [hN.2.1, decide_eq_true_eq, areB hN.1] at zc5
      obtain ⟨t, ht, rfl⟩ := zc5
      have xr := hQ2 t ht rfl zc14
      refine zr_aload_n hE eX11_longest_19 rfl ?_
      refine zr_getR hE eX11_longest_20 fX11_55 zs0 rfl ?_
      refine zr_aload_n hE eX11_longest_23 rfl ?_
      refine zr_getR hE eX11_longest_24 fX11_42 zs0 rfl ?_
      refine zr_callV1 hE eX11_longest_27 lX11_160 zs31 rfl rfl (by decide) (Nat.le_of_ble_eq_true rfl) (c_find hN (fun xu xF => ?_))
      refine zr_aload_n hE eX11_longest_30 rfl ?_
      refine zr_getR hE eX11_longest_31 fX11_55 zs0 rfl ?_
      refine zr_iload_n hE eX11_longest_34 rfl ?_
      refine zr_callV1 hE eX11_longest_35 lX11_164 zs31 rfl rfl (by decide) (Nat.le_of_ble_eq_true rfl) (c_X7_longestOf (t := t) (F := fFo (hB w 10) (w 10 8) c) (by have := p29 hN.1; omega) xF.2.2.2.1 (fFo_len hN.1) (fun xe xhe => Nat.lt_of_lt_of_le (fFo_lt xhe) (p29 hN.1)) ?_)
      rw [xF.lg]
      refine zr_istore_n hE eX11_longest_38 (by decide) rfl ?_
      refine zr_iload_n hE eX11_longest_39 rfl ?_
      refine zr_if_ne hE eX11_longest_40 (tgt := 47) (by decide) (fun zc40 => ?_) (fun zc40 => ?_)
      · refine zr_iload_n hE eX11_longest_47 rfl ?_
        refine zr_callS1 hE eX11_longest_48 lX11_167 (by decide) (Nat.le_of_ble_eq_true rfl) (c_bc (by have := fLg_lt (B := hB w 10) (v := w 10 8) (c := c) (t := t); have := p29 hN.1; omega) ?_)
        refine hR.2.1 _ _ _ _ _ _ eX11_longest_51 rfl rfl ?_
        have xr2 := xr xu xF.1
        rw [if_neg zc40] at xr2
        exact xr2
      · refine zr_iload_n hE eX11_longest_43 rfl ?_
        refine zr_goto hE eX11_longest_44 (tgt := 51) (by decide) ?_
        refine hR.2.1 _ _ _ _ _ _ eX11_longest_51 rfl rfl ?_
        have xr2 := xr xu xF.1
        rw [if_pos zc40] at xr2
        exact xr2
    · refine zr_iconst hE eX11_longest_17 (v := -1) (by decide) ?_
      refine hR.2.1 _ _ _ _ _ _ eX11_longest_18 rfl rfl ?_
      exact hQ1 (Or.inr zc14)

set_option maxHeartbeats 4000000 in
theorem c_X11_apart {c : Nat} {k : Int32} {w : ww} {Q : Option Value → ww → Prop} (hN : Now w c) (hQ1 : fIs k 0 1 = false → Q (some (.int (-1))) w) (hQ2 : fIs k 0 1 = true → ∀ u, SC w u → Q (some (.int (if k = 0 then nI (pop (fAp (hB w 10) (w 10 8) c) 10) else nI (fAp (hB w 10) (w 10 8) c)))) u)  : Ct mX11_apart 8 [.ref 0, .int k] w Q := by
  refine Ct.of (by decide) (Nat.le_of_ble_eq_true rfl) (fun _ => Nat.le_of_ble_eq_true rfl) (fun G hR => ?_)
  have hE := hR.1
  refine zr_iload_n hE eX11_apart_0 rfl ?_
  refine zr_iconst hE eX11_apart_1 (v := 0) (by decide) ?_
  refine zr_iconst hE eX11_apart_2 (v := 1) (by decide) ?_
  refine zr_callS3 hE eX11_apart_3 lX11_123 (by decide) (Nat.le_of_ble_eq_true rfl) (c_X11_isWithin ?_)
  refine zr_bne hE eX11_apart_6 (tgt := 11) (by decide) (fun zc6 => ?_) (fun zc6 => ?_)
  · refine zr_aload_n hE eX11_apart_11 rfl ?_
    refine zr_getR hE eX11_apart_12 fX11_55 zs0 rfl ?_
    refine zr_aload_n hE eX11_apart_15 rfl ?_
    refine zr_getR hE eX11_apart_16 fX11_42 zs0 rfl ?_
    refine zr_callV1 hE eX11_apart_19 lX11_160 zs31 rfl rfl (by decide) (Nat.le_of_ble_eq_true rfl) (c_find hN (fun xu xF => ?_))
    refine zr_aload_n hE eX11_apart_22 rfl ?_
    refine zr_getR hE eX11_apart_23 fX11_55 zs0 rfl ?_
    refine zr_callV0 hE eX11_apart_26 lX11_180 zs31 rfl rfl (by decide) (Nat.le_of_ble_eq_true rfl) (c_X7_mostApart (n := fM c) hN.1 xF.2.1 (fM_lt hN.1).1 xF.2.2.1 ?_)
    rw [show apF (xu 37) c (fM c) 1 0 = fAp (hB w 10) (w 10 8) c from apF_cong xF.2.2.2.2.2.2 _ _ _]
    refine zr_istore_n hE eX11_apart_29 (by decide) rfl ?_
    refine zr_iload_n hE eX11_apart_30 rfl ?_
    refine zr_if_ne hE eX11_apart_31 (tgt := 41) (by decide) (fun zc31 => ?_) (fun zc31 => ?_)
    · refine zr_iload_n hE eX11_apart_41 rfl ?_
      refine hR.2.1 _ _ _ _ _ _ eX11_apart_42 rfl rfl ?_
      have xr2 := hQ2 zc6 xu xF.1
      rw [if_neg zc31] at xr2
      exact xr2
    · refine zr_iload_n hE eX11_apart_34 rfl ?_
      refine zr_callS1 hE eX11_apart_35 lX11_167 (by decide) (Nat.le_of_ble_eq_true rfl) (c_bc (by have := fAp_lt (B := hB w 10) (v := w 10 8) (c := c); have := p29 hN.1; omega) ?_)
      refine zr_goto hE eX11_apart_38 (tgt := 42) (by decide) ?_
      refine hR.2.1 _ _ _ _ _ _ eX11_apart_42 rfl rfl ?_
      have xr2 := hQ2 zc6 xu xF.1
      rw [if_pos zc31] at xr2
      exact xr2
  · refine zr_iconst hE eX11_apart_9 (v := -1) (by decide) ?_
    refine hR.2.1 _ _ _ _ _ _ eX11_apart_10 rfl rfl ?_
    exact hQ1 zc6

def Sok (w : ww) (d : Int32) : Prop := rfS w d 2 = 0 → ∃ n, n ≤ 100 ∧ w (fSh d) 5 = nI n
def fmW (w : ww) (d : Int32) : Int32 := fmF (w (fSh d + 1)) (w 10 7) (fun a b => fLi (hB w 10) a b (w 10 8)) (w (fSh d) 5).toNatClampNeg 0 0
set_option maxHeartbeats 4000000 in
theorem c_X11_judge {c : Nat} {d : Int32} {w : ww} {Q : Option Value → ww → Prop} (hN : Now w c) (hS : Sok w d) (hQ : Q (some (.int (if rfS w d 2 = 0 then (if 0 ≤ fmW w d then fmW w d else -4) else rfS w d 2))) w)  : Ct mX11_judge 7 [.ref 0, .int d] w Q := by
  refine Ct.of (by decide) (Nat.le_of_ble_eq_true rfl) (fun _ => Nat.le_of_ble_eq_true rfl) (fun G hR => ?_)
  have hE := hR.1
  refine zr_aload_n hE eX11_judge_0 rfl ?_
  refine zr_iload_n hE eX11_judge_1 rfl ?_
  refine zr_callV1 hE eX11_judge_2 lX11_220 zs0 rfl rfl (by decide) (Nat.le_of_ble_eq_true rfl) (c_X11_rowRefusal ?_)
  refine zr_istore_n hE eX11_judge_5 (by decide) rfl ?_
  refine zr_iload_n hE eX11_judge_6 rfl ?_
  refine zr_if_eq hE eX11_judge_7 (tgt := 12) (by decide) (fun zc7 => ?_) (fun zc7 => ?_)
  · have xK : ∀ (Q2 : Option Value → ww → Prop), Q2 (some (.int (fmW w d))) w → Ct mX11_firstMisplaced 6 [.ref 0, .ref (fSh d)] w Q2 := by
      intro Q2 xh
      obtain ⟨xn, xn1, xn2⟩ := hS zc7
      refine c_X11_firstMisplaced (n := xn) (c := c) (fSh_sf (rfS_is zc7)) xn2 xn1 (by have := hN.1; omega) hN.2.1 hN.2.2 ?_
      have e : fmF (w (fSh d + 1)) (w 10 7) (fun a b => fLi (hB w 10) a b (w 10 8)) xn 0 0 = fmW w d := by unfold fmW; rw [xn2, nI_clamp (by omega)]
      rw [e]; exact xh
    refine zr_aload_n hE eX11_judge_12 rfl ?_
    refine zr_aload_n hE eX11_judge_13 rfl ?_
    refine zr_getR hE eX11_judge_14 fX11_61 zs0 rfl ?_
    refine zr_iload_n hE eX11_judge_17 rfl ?_
    refine zr_shelves hE eX11_judge_18 (fIs_vp (rfS_is zc7)) ?_
    show G _ _ (.ref (fSh d) :: _) _
    refine zr_callV1 hE eX11_judge_19 lX11_214 zs0 rfl rfl (by decide) (Nat.le_of_ble_eq_true rfl) (xK _ ?_)
    refine zr_istore_n hE eX11_judge_22 (by decide) rfl ?_
    refine zr_iload_n hE eX11_judge_23 rfl ?_
    refine zr_kif_lt hE eX11_judge_24 (tgt := 31) (by decide) (fun zc24 zd24 => ?_) (fun zc24 zd24 => ?_)
    · refine zr_bipush hE eX11_judge_31 (v := -4) (by decide) ?_
      refine hR.2.1 _ _ _ _ _ _ eX11_judge_33 rfl rfl ?_
      rw [if_pos zc7, if_neg zc24] at hQ
      exact hQ
    · refine zr_iload_n hE eX11_judge_27 rfl ?_
      refine zr_goto hE eX11_judge_28 (tgt := 33) (by decide) ?_
      refine hR.2.1 _ _ _ _ _ _ eX11_judge_33 rfl rfl ?_
      rw [if_pos zc7, if_pos zc24] at hQ
      exact hQ
  · refine zr_iload_n hE eX11_judge_10 rfl ?_
    refine hR.2.1 _ _ _ _ _ _ eX11_judge_11 rfl rfl ?_
    rw [if_neg zc7] at hQ
    exact hQ

set_option maxHeartbeats 4000000 in
theorem c_X11_spans {c : Nat} {a b k : Int32} {w : ww} {Q : Option Value → ww → Prop} (hN : Now w c) (hQ : Q (some (.int (if ((0 ≤ a ∧ a < w 10 7) ∧ (0 ≤ b ∧ b < w 10 7) ∧ ¬ a = b) ∧ fIs k 0 9 = true then fSp (hB w 10) a.toNatClampNeg k b.toNatClampNeg k (w 10 8) else -1))) w) : Ct mX11_spans 6 [.ref 0, .int a, .int b, .int k] w Q := by
  refine Ct.of (by decide) (Nat.le_of_ble_eq_true rfl) (fun _ => Nat.le_of_ble_eq_true rfl) (fun G hR => ?_)
  have hE := hR.1
  refine zr_aload_n hE eX11_spans_0 rfl ?_
  refine zr_iload_n hE eX11_spans_1 rfl ?_
  refine zr_iload_n hE eX11_spans_2 rfl ?_
  refine zr_callV2 hE eX11_spans_3 lX11_147 zs0 rfl rfl (by decide) (Nat.le_of_ble_eq_true rfl) (c_X11_arePair ?_)
  refine zr_beq hE eX11_spans_6 (tgt := 19) (by decide) (fun zc6 => ?_) (fun zc6 => ?_)
  · refine zr_iconst hE eX11_spans_19 (v := -1) (by decide) ?_
    refine hR.2.1 _ _ _ _ _ _ eX11_spans_20 rfl rfl ?_
    refine zq hQ (if_neg (fun xq => ?_))
    have xq1 := xq.1
    simp_all
  · refine zr_iload_n hE eX11_spans_9 rfl ?_
    refine zr_iconst hE eX11_spans_10 (v := 0) (by decide) ?_
    refine zr_bipush hE eX11_spans_11 (v := 9) (by decide) ?_
    refine zr_callS3 hE eX11_spans_13 lX11_123 (by decide) (Nat.le_of_ble_eq_true rfl) (c_X11_isWithin ?_)
    refine zr_bne hE eX11_spans_16 (tgt := 21) (by decide) (fun zc16 => ?_) (fun zc16 => ?_)
    · have xp : (0 ≤ a ∧ a < w 10 7) ∧ (0 ≤ b ∧ b < w 10 7) ∧ ¬ a = b := by simpa [and_assoc] using zc6
      refine zr_aload_n hE eX11_spans_21 rfl ?_
      refine zr_getR hE eX11_spans_22 fX11_42 zs0 rfl ?_
      refine zr_iload_n hE eX11_spans_25 rfl ?_
      refine zr_iload_n hE eX11_spans_26 rfl ?_
      refine zr_iload_n hE eX11_spans_27 rfl ?_
      refine zr_iload_n hE eX11_spans_28 rfl ?_
      refine zr_callV4 hE eX11_spans_29 lX11_223 (zH10).s0 rfl rfl (by decide) (Nat.le_of_ble_eq_true rfl) (c_X5_spanned zH10 (has_of hN xp.1).1 (has_of hN xp.2.1).1 (has_of hN xp.1).2.1 (has_of hN xp.2.1).2.1 ?_)
      refine hR.2.1 _ _ _ _ _ _ eX11_spans_32 rfl rfl ?_
      rw [if_pos ⟨xp, zc16⟩] at hQ
      exact hQ
    · refine zr_iconst hE eX11_spans_19 (v := -1) (by decide) ?_
      refine hR.2.1 _ _ _ _ _ _ eX11_spans_20 rfl rfl ?_
      refine zq hQ (if_neg (fun xq => ?_))
      have xq1 : (decide (0 ≤ k) && decide (k ≤ 9)) = true := xq.2
      rw [zc16] at xq1
      exact absurd xq1 (by decide)

/-- one heap's bowls are another one's -/
def Bec (w : ww) (o : Nat) (u : ww) (h : Nat) : Prop := (∀ p, p < h ∨ h + 5 < p → u p = w p) ∧ u h 7 = w o 7 ∧ u h 8 = w o 8 ∧ ∀ k b, k < 5 → b < 10 → hB u h k b = hB w o k b
set_option maxHeartbeats 4000000 in
theorem c_X11_image  {w : ww} {Q : Option Value → ww → Prop} (hQ : ∀ u, Bec w 10 u 24 → Q (some (.int (w 10 7))) (wu u 0 6 1))  : Ct mX11_image 2 [.ref 0] w Q := by
  refine Ct.of (by decide) (Nat.le_of_ble_eq_true rfl) (fun _ => Nat.le_of_ble_eq_true rfl) (fun G hR => ?_)
  have hE := hR.1
  refine zr_aload_n hE eX11_image_0 rfl ?_
  refine zr_getR hE eX11_image_1 fX11_49 zs0 rfl ?_
  refine zr_aload_n hE eX11_image_4 rfl ?_
  refine zr_getR hE eX11_image_5 fX11_42 zs0 rfl ?_
  refine zr_callV1 hE eX11_image_8 lX11_192 (zH24).s0 rfl rfl (by decide) (Nat.le_of_ble_eq_true rfl) (c_X5_become zH24 zH10 (by decide) (fun xu xof x7 x8 xB => ?_))
  refine zr_aload_n hE eX11_image_11 rfl ?_
  refine zr_iconst hE eX11_image_12 (v := 1) (by decide) ?_
  refine zr_put hE eX11_image_13 gX11_66 zs0 rfl rfl rfl ?_
  refine zr_aload_n hE eX11_image_16 rfl ?_
  refine zr_getR hE eX11_image_17 fX11_42 zs0 rfl ?_
  refine zr_getI hE eX11_image_20 fX11_138 (zH10).s0 rfl ?_
  refine hR.2.1 _ _ _ _ _ _ eX11_image_23 rfl rfl ?_
  have e := hQ xu ⟨xof, x7, x8, xB⟩
  rw [show w 10 7 = wu xu 0 6 1 10 7 by rw [wu_ne (by decide), xof 10 (by decide)]] at e
  exact e

set_option maxHeartbeats 4000000 in
theorem c_X11_restore  {w : ww} {Q : Option Value → ww → Prop} (hQ1 : w 0 6 = 0 → Q (some (.int (-3))) w) (hQ2 : ¬ w 0 6 = 0 → ∀ u, Bec w 24 u 10 → Q (some (.int (w 24 7))) u)  : Ct mX11_restore 2 [.ref 0] w Q := by
  refine Ct.of (by decide) (Nat.le_of_ble_eq_true rfl) (fun _ => Nat.le_of_ble_eq_true rfl) (fun G hR => ?_)
  have hE := hR.1
  refine zr_aload_n hE eX11_restore_0 rfl ?_
  refine zr_getI hE eX11_restore_1 fX11_66 zs0 rfl ?_
  refine zr_if_ne hE eX11_restore_4 (tgt := 10) (by decide) (fun zc4 => ?_) (fun zc4 => ?_)
  · refine zr_aload_n hE eX11_restore_10 rfl ?_
    refine zr_getR hE eX11_restore_11 fX11_42 zs0 rfl ?_
    refine zr_aload_n hE eX11_restore_14 rfl ?_
    refine zr_getR hE eX11_restore_15 fX11_49 zs0 rfl ?_
    refine zr_callV1 hE eX11_restore_18 lX11_192 (zH10).s0 rfl rfl (by decide) (Nat.le_of_ble_eq_true rfl) (c_X5_become zH10 zH24 (by decide) (fun xu xof x7 x8 xB => ?_))
    refine zr_aload_n hE eX11_restore_21 rfl ?_
    refine zr_getR hE eX11_restore_22 fX11_42 zs0 rfl ?_
    refine zr_getI hE eX11_restore_25 fX11_138 (zH10).s0 rfl ?_
    refine hR.2.1 _ _ _ _ _ _ eX11_restore_28 rfl rfl ?_
    have e := hQ2 zc4 xu ⟨xof, x7, x8, xB⟩
    rw [← x7] at e
    exact e
  · refine zr_bipush hE eX11_restore_7 (v := -3) (by decide) ?_
    refine hR.2.1 _ _ _ _ _ _ eX11_restore_9 rfl rfl ?_
    exact hQ1 zc4

set_option maxHeartbeats 4000000 in
theorem c_X11_count {c : Nat} {k : Int32} {w : ww} {Q : Option Value → ww → Prop} (hN : Now w c) (hQ : Q (some (.int (if k = 0 then w 10 7 else if k = 1 then w 10 8 else if k = 2 then fPs (hB w 10) (w 10 8) c else if k = 3 then fDs (hB w 10) c else -1))) w) : Ct mX11_count 7 [.ref 0, .int k] w Q := by
  refine Ct.of (by decide) (Nat.le_of_ble_eq_true rfl) (fun _ => Nat.le_of_ble_eq_true rfl) (fun G hR => ?_)
  have hE := hR.1
  refine zr_iload_n hE eX11_count_0 rfl ?_
  refine zr_tswK hE eX11_count_1 (0) (31) 32 (0) (by decide) (by decide) (by decide) (by decide) (by decide) (fun zk1_0 => ?_) (fun zk1_0 => ?_)
  · refine zr_aload_n hE eX11_count_32 rfl ?_
    refine zr_getR hE eX11_count_33 fX11_42 zs0 rfl ?_
    refine zr_getI hE eX11_count_36 fX11_138 (zH10).s0 rfl ?_
    refine hR.2.1 _ _ _ _ _ _ eX11_count_39 rfl rfl ?_
    subst zk1_0; exact hQ
  refine zr_tswK hE eX11_count_1 (1) (39) 40 (1) (by decide) (by decide) (by decide) (by decide) (by decide) (fun zk1_1 => ?_) (fun zk1_1 => ?_)
  · refine zr_aload_n hE eX11_count_40 rfl ?_
    refine zr_getR hE eX11_count_41 fX11_42 zs0 rfl ?_
    refine zr_getI hE eX11_count_44 fX11_106 (zH10).s0 rfl ?_
    refine hR.2.1 _ _ _ _ _ _ eX11_count_47 rfl rfl ?_
    subst zk1_1; exact hQ
  refine zr_tswK hE eX11_count_1 (2) (47) 48 (2) (by decide) (by decide) (by decide) (by decide) (by decide) (fun zk1_2 => ?_) (fun zk1_2 => ?_)
  · refine zr_aload_n hE eX11_count_48 rfl ?_
    refine zr_getR hE eX11_count_49 fX11_42 zs0 rfl ?_
    refine zr_callV0 hE eX11_count_52 lX11_236 (zH10).s0 rfl rfl (by decide) (Nat.le_of_ble_eq_true rfl) (c_X5_pairsIn zH10 (by have := hN.1; omega) hN.2.1 (Nowk hN) ?_)
    refine hR.2.1 _ _ _ _ _ _ eX11_count_55 rfl rfl ?_
    subst zk1_2; exact hQ
  refine zr_tswK hE eX11_count_1 (3) (55) 56 (3) (by decide) (by decide) (by decide) (by decide) (by decide) (fun zk1_3 => ?_) (fun zk1_3 => ?_)
  · refine zr_aload_n hE eX11_count_56 rfl ?_
    refine zr_getR hE eX11_count_57 fX11_42 zs0 rfl ?_
    refine zr_callV0 hE eX11_count_60 lX11_239 (zH10).s0 rfl rfl (by decide) (Nat.le_of_ble_eq_true rfl) (c_X5_allDepths zH10 (by have := hN.1; omega) hN.2.1 ?_)
    refine hR.2.1 _ _ _ _ _ _ eX11_count_63 rfl rfl ?_
    subst zk1_3; exact hQ
  refine zr_tableOut hE eX11_count_1 (tgt := 64) ?_ (by decide) ?_
  · have zm0 := zne zk1_0 (v := 0) (by decide); have zm1 := zne zk1_1 (v := 1) (by decide); have zm2 := zne zk1_2 (v := 2) (by decide); have zm3 := zne zk1_3 (v := 3) (by decide); omega
  refine zr_iconst hE eX11_count_64 (v := -1) (by decide) ?_
  refine hR.2.1 _ _ _ _ _ _ eX11_count_65 rfl rfl ?_
  rw [if_neg zk1_0, if_neg zk1_1, if_neg zk1_2, if_neg zk1_3] at hQ
  exact hQ

def keE (d what k f : Int32) : Bool := fIs d 0 7 && fIs what 0 1 && (decide (what = 0) || (fIs k 0 7 && fIs f 0 9))
set_option maxHeartbeats 4000000 in
theorem c_X11_keep {d m k f : Int32} {w : ww} {Q : Option Value → ww → Prop} (hQ1 : keE d m k f = false → Q (some (.int (-1))) w) (hQ2 : keE d m k f = true → m = 0 → Q (some (.int 0)) (wu w (fSh d) 1 0)) (hQ3 : keE d m k f = true → ¬ m = 0 → Q (some (.int 0)) (wu (wu (wu w (fSh d) 1 1) (fSh d) 2 k) (fSh d) 3 f))  : Ct mX11_keep 3 [.ref 0, .int d, .int m, .int k, .int f] w Q := by
  refine Ct.of (by decide) (Nat.le_of_ble_eq_true rfl) (fun _ => Nat.le_of_ble_eq_true rfl) (fun G hR => ?_)
  have hE := hR.1
  refine zr_iload_n hE eX11_keep_0 rfl ?_
  refine zr_callS1 hE eX11_keep_1 lX11_117 (by decide) (Nat.le_of_ble_eq_true rfl) (c_X11_isShelf ?_)
  refine zr_beq hE eX11_keep_4 (tgt := 16) (by decide) (fun zc4 => ?_) (fun zc4 => ?_)
  · refine zr_iconst hE eX11_keep_16 (v := -1) (by decide) ?_
    refine hR.2.1 _ _ _ _ _ _ eX11_keep_17 rfl rfl ?_
    exact hQ1 (by unfold keE; rw [zc4]; rfl)
  · refine zr_iload_n hE eX11_keep_7 rfl ?_
    refine zr_iconst hE eX11_keep_8 (v := 0) (by decide) ?_
    refine zr_iconst hE eX11_keep_9 (v := 1) (by decide) ?_
    refine zr_callS3 hE eX11_keep_10 lX11_123 (by decide) (Nat.le_of_ble_eq_true rfl) (c_X11_isWithin ?_)
    refine zr_bne hE eX11_keep_13 (tgt := 18) (by decide) (fun zc13 => ?_) (fun zc13 => ?_)
    · refine zr_iload_n hE eX11_keep_18 rfl ?_
      refine zr_if_ne hE eX11_keep_19 (tgt := 33) (by decide) (fun zc19 => ?_) (fun zc19 => ?_)
      · refine zr_iload_n hE eX11_keep_33 rfl ?_
        refine zr_iconst hE eX11_keep_34 (v := 0) (by decide) ?_
        refine zr_bipush hE eX11_keep_35 (v := 7) (by decide) ?_
        refine zr_callS3 hE eX11_keep_37 lX11_123 (by decide) (Nat.le_of_ble_eq_true rfl) (c_X11_isWithin ?_)
        refine zr_beq hE eX11_keep_40 (tgt := 54) (by decide) (fun zc40 => ?_) (fun zc40 => ?_)
        · refine zr_iconst hE eX11_keep_54 (v := -1) (by decide) ?_
          refine hR.2.1 _ _ _ _ _ _ eX11_keep_55 rfl rfl ?_
          exact hQ1 (by unfold keE; rw [show fIs k 0 7 = false from zc40]; simp [zc19])
        · refine zr_iload hE eX11_keep_43 rfl ?_
          refine zr_iconst hE eX11_keep_45 (v := 0) (by decide) ?_
          refine zr_bipush hE eX11_keep_46 (v := 9) (by decide) ?_
          refine zr_callS3 hE eX11_keep_48 lX11_123 (by decide) (Nat.le_of_ble_eq_true rfl) (c_X11_isWithin ?_)
          refine zr_bne hE eX11_keep_51 (tgt := 56) (by decide) (fun zc51 => ?_) (fun zc51 => ?_)
          · refine zr_aload_n hE eX11_keep_56 rfl ?_
            refine zr_getR hE eX11_keep_57 fX11_61 zs0 rfl ?_
            refine zr_iload_n hE eX11_keep_60 rfl ?_
            refine zr_shelves hE eX11_keep_61 (fIs_vp zc4) ?_
            refine zr_iload_n hE eX11_keep_62 rfl ?_
            refine zr_iload hE eX11_keep_63 rfl ?_
            refine zr_callV2 hE eX11_keep_65 lX11_245 ((fSh_sf zc4)).s0 rfl rfl (by decide) (Nat.le_of_ble_eq_true rfl) (c_X10_holdBowl (fSh_sf zc4) ?_)
            refine zr_iconst hE eX11_keep_68 (v := 0) (by decide) ?_
            refine hR.2.1 _ _ _ _ _ _ eX11_keep_69 rfl rfl ?_
            exact hQ3 (by unfold keE; rw [zc4, show fIs m 0 1 = true from zc13, show fIs k 0 7 = true from zc40, show fIs f 0 9 = true from zc51]; simp) zc19
          · refine zr_iconst hE eX11_keep_54 (v := -1) (by decide) ?_
            refine hR.2.1 _ _ _ _ _ _ eX11_keep_55 rfl rfl ?_
            exact hQ1 (by unfold keE; rw [show fIs f 0 9 = false from zc51]; simp [zc19])
      · refine zr_aload_n hE eX11_keep_22 rfl ?_
        refine zr_getR hE eX11_keep_23 fX11_61 zs0 rfl ?_
        refine zr_iload_n hE eX11_keep_26 rfl ?_
        refine zr_shelves hE eX11_keep_27 (fIs_vp zc4) ?_
        refine zr_callV0 hE eX11_keep_28 lX11_242 ((fSh_sf zc4)).s0 rfl rfl (by decide) (Nat.le_of_ble_eq_true rfl) (c_X10_clear (fSh_sf zc4) ?_)
        refine zr_iconst hE eX11_keep_31 (v := 0) (by decide) ?_
        refine hR.2.1 _ _ _ _ _ _ eX11_keep_32 rfl rfl ?_
        exact hQ2 (by unfold keE; rw [zc4, show fIs m 0 1 = true from zc13, zc19]; rfl) zc19
    · refine zr_iconst hE eX11_keep_16 (v := -1) (by decide) ?_
      refine hR.2.1 _ _ _ _ _ _ eX11_keep_17 rfl rfl ?_
      exact hQ1 (by unfold keE; rw [show fIs m 0 1 = false from zc13]; simp)

set_option maxHeartbeats 4000000 in
theorem c_X11_row {d so n : Int32} {w : ww} {Q : Option Value → ww → Prop} (hQ1 : ¬ (fIs d 0 7 = true ∧ fIs so 0 2 = true ∧ n ≤ 100) → Q (some (.int (-1))) w) (hQ2 : fIs d 0 7 = true ∧ fIs so 0 2 = true ∧ n ≤ 100 → n < 0 → Q (some (.int (-14))) w) (hQ3 : fIs d 0 7 = true ∧ fIs so 0 2 = true ∧ n ≤ 100 → ¬ n < 0 → ∀ u : ww, (∀ p, p ≠ fSh d → p ≠ fSh d + 1 → u p = w p) → u (fSh d) 1 = 2 → u (fSh d) 4 = so → u (fSh d) 5 = n → (∀ i, i < 100 → u (fSh d+1) i = 0) → Q (some (.int 0)) u)  : Ct mX11_row 3 [.ref 0, .int d, .int so, .int n] w Q := by
  refine Ct.of (by decide) (Nat.le_of_ble_eq_true rfl) (fun _ => Nat.le_of_ble_eq_true rfl) (fun G hR => ?_)
  have hE := hR.1
  refine zr_iload_n hE eX11_row_0 rfl ?_
  refine zr_callS1 hE eX11_row_1 lX11_117 (by decide) (Nat.le_of_ble_eq_true rfl) (c_X11_isShelf ?_)
  refine zr_beq hE eX11_row_4 (tgt := 22) (by decide) (fun zc4 => ?_) (fun zc4 => ?_)
  · refine zr_iconst hE eX11_row_22 (v := -1) (by decide) ?_
    refine hR.2.1 _ _ _ _ _ _ eX11_row_23 rfl rfl ?_
    exact hQ1 (fun xq => by have := xq.1; rw [zc4] at this; cases this)
  · refine zr_iload_n hE eX11_row_7 rfl ?_
    refine zr_iconst hE eX11_row_8 (v := 0) (by decide) ?_
    refine zr_iconst hE eX11_row_9 (v := 2) (by decide) ?_
    refine zr_callS3 hE eX11_row_10 lX11_123 (by decide) (Nat.le_of_ble_eq_true rfl) (c_X11_isWithin ?_)
    refine zr_beq hE eX11_row_13 (tgt := 22) (by decide) (fun zc13 => ?_) (fun zc13 => ?_)
    · refine zr_iconst hE eX11_row_22 (v := -1) (by decide) ?_
      refine hR.2.1 _ _ _ _ _ _ eX11_row_23 rfl rfl ?_
      exact hQ1 (fun xq => by have e : fIs so 0 2 = false := zc13; have := xq.2.1; rw [e] at this; cases this)
    · refine zr_iload_n hE eX11_row_16 rfl ?_
      refine zr_bipush hE eX11_row_17 (v := 100) (by decide) ?_
      refine zr_kicmp_le hE eX11_row_19 (tgt := 24) (by decide) (fun zc19 zd19 => ?_) (fun zc19 zd19 => ?_)
      · refine zr_iload_n hE eX11_row_24 rfl ?_
        refine zr_kif_ge hE eX11_row_25 (tgt := 31) (by decide) (fun zc25 zd25 => ?_) (fun zc25 zd25 => ?_)
        · refine zr_aload_n hE eX11_row_31 rfl ?_
          refine zr_getR hE eX11_row_32 fX11_61 zs0 rfl ?_
          refine zr_iload_n hE eX11_row_35 rfl ?_
          refine zr_shelves hE eX11_row_36 (fIs_vp zc4) ?_
          refine zr_iload_n hE eX11_row_37 rfl ?_
          refine zr_iload_n hE eX11_row_38 rfl ?_
          refine zr_callV2 hE eX11_row_39 lX11_249 ((fSh_sf zc4)).s0 rfl rfl (by decide) (Nat.le_of_ble_eq_true rfl) (c_X10_holdRow (fSh_sf zc4) (fun xu xof x1 x4 x5 xz => ?_))
          refine zr_iconst hE eX11_row_42 (v := 0) (by decide) ?_
          refine hR.2.1 _ _ _ _ _ _ eX11_row_43 rfl rfl ?_
          exact hQ3 ⟨zc4, zc13, zd19⟩ zc25 xu xof x1 x4 x5 xz
        · refine zr_bipush hE eX11_row_28 (v := -14) (by decide) ?_
          refine hR.2.1 _ _ _ _ _ _ eX11_row_30 rfl rfl ?_
          exact hQ2 ⟨zc4, zc13, zd19⟩ zc25
      · refine zr_iconst hE eX11_row_22 (v := -1) (by decide) ?_
        refine hR.2.1 _ _ _ _ _ _ eX11_row_23 rfl rfl ?_
        exact hQ1 (fun xq => absurd xq.2.2 (Int32.not_le.mpr zc19))

def puE (w : ww) (d i : Int32) : Int32 := if rfS w d 2 = 0 then (if 0 ≤ i ∧ i < w (fSh d) 5 then 0 else -13) else rfS w d 2
set_option maxHeartbeats 4000000 in
theorem c_X11_put {d i v : Int32} {w : ww} {Q : Option Value → ww → Prop} (hS : Sok w d) (hQ1 : ¬ puE w d i = 0 → Q (some (.int (puE w d i))) w) (hQ2 : puE w d i = 0 → Q (some (.int 0)) (wu w (fSh d+1) i.toNatClampNeg (sNar (w (fSh d) 4) v)))  : Ct mX11_put 5 [.ref 0, .int d, .int i, .int v] w Q := by
  refine Ct.of (by decide) (Nat.le_of_ble_eq_true rfl) (fun _ => Nat.le_of_ble_eq_true rfl) (fun G hR => ?_)
  have hE := hR.1
  refine zr_aload_n hE eX11_put_0 rfl ?_
  refine zr_iload_n hE eX11_put_1 rfl ?_
  refine zr_callV1 hE eX11_put_2 lX11_220 zs0 rfl rfl (by decide) (Nat.le_of_ble_eq_true rfl) (c_X11_rowRefusal ?_)
  refine zr_istore hE eX11_put_5 (by decide) rfl ?_
  refine zr_iload hE eX11_put_7 rfl ?_
  refine zr_if_eq hE eX11_put_9 (tgt := 15) (by decide) (fun zc9 => ?_) (fun zc9 => ?_)
  · refine zr_aload_n hE eX11_put_15 rfl ?_
    refine zr_getR hE eX11_put_16 fX11_61 zs0 rfl ?_
    refine zr_iload_n hE eX11_put_19 rfl ?_
    refine zr_shelves hE eX11_put_20 (fIs_vp (rfS_is zc9)) ?_
    refine zr_iload_n hE eX11_put_21 rfl ?_
    refine zr_callV1 hE eX11_put_22 lX11_252 ((fSh_sf (rfS_is zc9))).s0 rfl rfl (by decide) (Nat.le_of_ble_eq_true rfl) (c_X10_hasPlace (fSh_sf (rfS_is zc9)) ?_)
    refine zr_bne hE eX11_put_25 (tgt := 31) (by decide) (fun zc25 => ?_) (fun zc25 => ?_)
    · have xpl : 0 ≤ i ∧ i < w (fSh d) 5 := by simpa [fSh] using zc25
      have xvi : vp_in i 100 := by
        obtain ⟨xn, xn1, xn2⟩ := hS zc9
        exact vp_le100 xpl.1 xpl.2 (by rw [xn2, show (100 : Int32) = nI 100 from rfl, nI_leI (by omega) (by decide)]; exact xn1)
      refine zr_aload_n hE eX11_put_31 rfl ?_
      refine zr_getR hE eX11_put_32 fX11_61 zs0 rfl ?_
      refine zr_iload_n hE eX11_put_35 rfl ?_
      refine zr_shelves hE eX11_put_36 (fIs_vp (rfS_is zc9)) ?_
      refine zr_iload_n hE eX11_put_37 rfl ?_
      refine zr_iload_n hE eX11_put_38 rfl ?_
      refine zr_callV2 hE eX11_put_39 lX11_255 ((fSh_sf (rfS_is zc9))).s0 rfl rfl (by decide) (Nat.le_of_ble_eq_true rfl) (c_X10_set (fSh_sf (rfS_is zc9)) xvi ?_)
      refine zr_iconst hE eX11_put_42 (v := 0) (by decide) ?_
      refine hR.2.1 _ _ _ _ _ _ eX11_put_43 rfl rfl ?_
      exact hQ2 (by unfold puE; rw [if_pos zc9, if_pos xpl])
    · refine zr_bipush hE eX11_put_28 (v := -13) (by decide) ?_
      refine hR.2.1 _ _ _ _ _ _ eX11_put_30 rfl rfl ?_
      have xpl : ¬ (0 ≤ i ∧ i < w (fSh d) 5) := by simpa [fSh] using zc25
      have e : puE w d i = -13 := by unfold puE; rw [if_pos zc9, if_neg xpl]
      rw [e] at hQ1
      exact hQ1 (by decide)
  · refine zr_iload hE eX11_put_12 rfl ?_
    refine hR.2.1 _ _ _ _ _ _ eX11_put_14 rfl rfl ?_
    have e : puE w d i = rfS w d 2 := by unfold puE; rw [if_neg zc9]
    rw [e] at hQ1
    exact hQ1 zc9

set_option maxHeartbeats 4000000 in
theorem c_X11_price {d : Int32} {w : ww} {Q : Option Value → ww → Prop} (hS : rfS w d 1 = 0 → vp_in (w (fSh d) 2) 8) (hQ : Q (some (.int (if rfS w d 1 = 0 then coK (w (fSh d) 2) (w (fSh d) 3) else rfS w d 1))) w) : Ct mX11_price 5 [.ref 0, .int d] w Q := by
  refine Ct.of (by decide) (Nat.le_of_ble_eq_true rfl) (fun _ => Nat.le_of_ble_eq_true rfl) (fun G hR => ?_)
  have hE := hR.1
  refine zr_aload_n hE eX11_price_0 rfl ?_
  refine zr_iload_n hE eX11_price_1 rfl ?_
  refine zr_callV1 hE eX11_price_2 lX11_127 zs0 rfl rfl (by decide) (Nat.le_of_ble_eq_true rfl) (c_X11_bowlRefusal ?_)
  refine zr_istore_n hE eX11_price_5 (by decide) rfl ?_
  refine zr_iload_n hE eX11_price_6 rfl ?_
  refine zr_if_eq hE eX11_price_7 (tgt := 12) (by decide) (fun zc7 => ?_) (fun zc7 => ?_)
  · refine zr_aload_n hE eX11_price_12 rfl ?_
    refine zr_getR hE eX11_price_13 fX11_33 zs0 rfl ?_
    refine zr_aload_n hE eX11_price_16 rfl ?_
    refine zr_getR hE eX11_price_17 fX11_61 zs0 rfl ?_
    refine zr_iload_n hE eX11_price_20 rfl ?_
    refine zr_shelves hE eX11_price_21 (fIs_vp (rfS_is zc7)) ?_
    refine zr_getI hE eX11_price_22 fX11_130 ((fSh_sf (rfS_is zc7))).s0 rfl ?_
    refine zr_kinds hE eX11_price_25 (hS zc7) ?_
    refine zr_aload_n hE eX11_price_26 rfl ?_
    refine zr_getR hE eX11_price_27 fX11_61 zs0 rfl ?_
    refine zr_iload_n hE eX11_price_30 rfl ?_
    refine zr_shelves hE eX11_price_31 (fIs_vp (rfS_is zc7)) ?_
    refine zr_getI hE eX11_price_32 fX11_132 ((fSh_sf (rfS_is zc7))).s0 rfl ?_
    refine zr_vX11_cost hE eX11_price_35 (hS zc7) (by decide) (Nat.le_of_ble_eq_true rfl) ?_
    refine hR.2.1 _ _ _ _ _ _ eX11_price_38 rfl rfl ?_
    rw [if_pos zc7] at hQ
    exact hQ
  · refine zr_iload_n hE eX11_price_10 rfl ?_
    refine hR.2.1 _ _ _ _ _ _ eX11_price_11 rfl rfl ?_
    rw [if_neg zc7] at hQ
    exact hQ

def strB (w : ww) (s : Nat) (i n : Int32) : Bool := decide (0 ≤ n) && decide (n ≤ w s 5) && decide (0 ≤ i) && decide (i ≤ w s 5 - n)
theorem strOk {w : ww} {s : Nat} {i n : Int32} {N : Nat} (hN : N ≤ 100) (hs : w s 5 = nI N) (h : strB w s i n = true) : ¬ i < 0 ∧ ¬ n < 0 ∧ i.toNatClampNeg + n.toNatClampNeg ≤ 100 := by
  simp only [strB, Bool.and_eq_true, decide_eq_true_eq] at h
  obtain ⟨⟨⟨h1, h2⟩, h3⟩, h4⟩ := h
  obtain ⟨a, ha, rfl⟩ := nI_of (x := n) (fun q => absurd h1 (Int32.not_le.mpr q))
  obtain ⟨b, hb, rfl⟩ := nI_of (x := i) (fun q => absurd h3 (Int32.not_le.mpr q))
  rw [hs, nI_leI ha (by omega)] at h2
  have e : nI N - nI a = nI (N - a) := by
    have e1 := nI_add (N - a) a
    rw [show N - a + a = N by omega] at e1
    rw [← e1, Int32.add_sub_cancel]
  rw [hs, e, nI_leI hb (by omega)] at h4
  refine ⟨nI_pos (by omega), nI_pos (by omega), ?_⟩
  rw [nI_clamp hb, nI_clamp ha]; omega
def cpE (w : ww) (d i e j n : Int32) : Int32 := if fIs d 0 7 = true ∧ fIs e 0 7 = true then (if w (fSh d) 1 = 0 ∨ w (fSh e) 1 = 0 then -11 else if w (fSh d) 1 = 2 ∧ w (fSh e) 1 = 2 ∧ w (fSh d) 4 = w (fSh e) 4 then (if strB w (fSh d) i n = true ∧ strB w (fSh e) j n = true then 0 else -13) else -12) else -1
set_option maxHeartbeats 4000000 in
theorem c_X11_copy {d i e j n : Int32} {w : ww} {Q : Option Value → ww → Prop} (hS1 : w (fSh d) 1 = 2 → fIs d 0 7 = true → ∃ n, n ≤ 100 ∧ w (fSh d) 5 = nI n) (hS2 : w (fSh e) 1 = 2 → fIs e 0 7 = true → ∃ n, n ≤ 100 ∧ w (fSh e) 5 = nI n) (hQ1 : ¬ cpE w d i e j n = 0 → Q (some (.int (cpE w d i e j n))) w) (hQ2 : cpE w d i e j n = 0 → Q (some (.int n)) (wcp w (fSh d + 1) i.toNatClampNeg (fSh e + 1) j.toNatClampNeg n.toNatClampNeg))  : Ct mX11_copy 3 [.ref 0, .int d, .int i, .int e, .int j, .int n] w Q := by
  refine Ct.of (by decide) (Nat.le_of_ble_eq_true rfl) (fun _ => Nat.le_of_ble_eq_true rfl) (fun G hR => ?_)
  have hE := hR.1
  refine zr_iload_n hE eX11_copy_0 rfl ?_
  refine zr_callS1 hE eX11_copy_1 lX11_117 (by decide) (Nat.le_of_ble_eq_true rfl) (c_X11_isShelf ?_)
  refine zr_beq hE eX11_copy_4 (tgt := 14) (by decide) (fun zc4 => ?_) (fun zc4 => ?_)
  · refine zr_iconst hE eX11_copy_14 (v := -1) (by decide) ?_
    refine hR.2.1 _ _ _ _ _ _ eX11_copy_15 rfl rfl ?_
    have x : cpE w d i e j n = -1 := if_neg (fun xq => by have := xq.1; rw [zc4] at this; cases this)
    rw [x] at hQ1
    exact hQ1 (by decide)
  · refine zr_iload_n hE eX11_copy_7 rfl ?_
    refine zr_callS1 hE eX11_copy_8 lX11_117 (by decide) (Nat.le_of_ble_eq_true rfl) (c_X11_isShelf ?_)
    refine zr_bne hE eX11_copy_11 (tgt := 16) (by decide) (fun zc11 => ?_) (fun zc11 => ?_)
    · refine zr_aload_n hE eX11_copy_16 rfl ?_
      refine zr_getR hE eX11_copy_17 fX11_61 zs0 rfl ?_
      refine zr_iload_n hE eX11_copy_20 rfl ?_
      refine zr_shelves hE eX11_copy_21 (fIs_vp zc4) ?_
      show G _ _ (.ref (fSh d) :: _) _
      refine zr_astore hE eX11_copy_22 (by decide) rfl ?_
      refine zr_aload_n hE eX11_copy_24 rfl ?_
      refine zr_getR hE eX11_copy_25 fX11_61 zs0 rfl ?_
      refine zr_iload_n hE eX11_copy_28 rfl ?_
      refine zr_shelves hE eX11_copy_29 (fIs_vp zc11) ?_
      show G _ _ (.ref (fSh e) :: _) _
      refine zr_astore hE eX11_copy_30 (by decide) rfl ?_
      refine zr_aload hE eX11_copy_32 rfl ?_
      refine zr_getI hE eX11_copy_34 fX11_265 ((fSh_sf zc4)).s0 rfl ?_
      refine zr_if_eq hE eX11_copy_37 (tgt := 48) (by decide) (fun zc37 => ?_) (fun zc37 => ?_)
      · refine zr_bipush hE eX11_copy_48 (v := -11) (by decide) ?_
        refine hR.2.1 _ _ _ _ _ _ eX11_copy_50 rfl rfl ?_
        have x : cpE w d i e j n = -11 := by unfold cpE; rw [if_pos ⟨zc4, zc11⟩, if_pos (Or.inl zc37)]
        rw [x] at hQ1
        exact hQ1 (by decide)
      · refine zr_aload hE eX11_copy_40 rfl ?_
        refine zr_getI hE eX11_copy_42 fX11_265 ((fSh_sf zc11)).s0 rfl ?_
        refine zr_if_ne hE eX11_copy_45 (tgt := 51) (by decide) (fun zc45 => ?_) (fun zc45 => ?_)
        · refine zr_aload hE eX11_copy_51 rfl ?_
          refine zr_getI hE eX11_copy_53 fX11_265 ((fSh_sf zc4)).s0 rfl ?_
          refine zr_iconst hE eX11_copy_56 (v := 2) (by decide) ?_
          refine zr_icmp_ne hE eX11_copy_57 (tgt := 82) (by decide) (fun zc57 => ?_) (fun zc57 => ?_)
          · refine zr_bipush hE eX11_copy_82 (v := -12) (by decide) ?_
            refine hR.2.1 _ _ _ _ _ _ eX11_copy_84 rfl rfl ?_
            have x : cpE w d i e j n = -12 := by unfold cpE; rw [if_pos ⟨zc4, zc11⟩, if_neg (fun q => q.elim zc37 zc45), if_neg (fun q => zc57 q.1)]
            rw [x] at hQ1
            exact hQ1 (by decide)
          · refine zr_aload hE eX11_copy_60 rfl ?_
            refine zr_getI hE eX11_copy_62 fX11_265 ((fSh_sf zc11)).s0 rfl ?_
            refine zr_iconst hE eX11_copy_65 (v := 2) (by decide) ?_
            refine zr_icmp_ne hE eX11_copy_66 (tgt := 82) (by decide) (fun zc66 => ?_) (fun zc66 => ?_)
            · refine zr_bipush hE eX11_copy_82 (v := -12) (by decide) ?_
              refine hR.2.1 _ _ _ _ _ _ eX11_copy_84 rfl rfl ?_
              have x : cpE w d i e j n = -12 := by unfold cpE; rw [if_pos ⟨zc4, zc11⟩, if_neg (fun q => q.elim zc37 zc45), if_neg (fun q => zc66 q.2.1)]
              rw [x] at hQ1
              exact hQ1 (by decide)
            · refine zr_aload hE eX11_copy_69 rfl ?_
              refine zr_getI hE eX11_copy_71 fX11_273 ((fSh_sf zc4)).s0 rfl ?_
              refine zr_aload hE eX11_copy_74 rfl ?_
              refine zr_getI hE eX11_copy_76 fX11_273 ((fSh_sf zc11)).s0 rfl ?_
              refine zr_icmp_eq hE eX11_copy_79 (tgt := 85) (by decide) (fun zc79 => ?_) (fun zc79 => ?_)
              · refine zr_aload hE eX11_copy_85 rfl ?_
                refine zr_iload_n hE eX11_copy_87 rfl ?_
                refine zr_iload hE eX11_copy_88 rfl ?_
                refine zr_callV2 hE eX11_copy_90 lX11_276 ((fSh_sf zc4)).s0 rfl rfl (by decide) (Nat.le_of_ble_eq_true rfl) (c_X10_hasStretch (fSh_sf zc4) ?_)
                refine zr_beq hE eX11_copy_93 (tgt := 108) (by decide) (fun zc93 => ?_) (fun zc93 => ?_)
                · refine zr_bipush hE eX11_copy_108 (v := -13) (by decide) ?_
                  refine hR.2.1 _ _ _ _ _ _ eX11_copy_110 rfl rfl ?_
                  have x : cpE w d i e j n = -13 := by unfold cpE; rw [if_pos ⟨zc4, zc11⟩, if_neg (fun q => q.elim zc37 zc45), if_pos ⟨zc57, zc66, zc79⟩, if_neg (fun q => by have q1 : strB w (fSh d) i n = false := zc93; rw [q1] at q; exact absurd q.1 (by decide))]
                  rw [x] at hQ1
                  exact hQ1 (by decide)
                · refine zr_aload hE eX11_copy_96 rfl ?_
                  refine zr_iload hE eX11_copy_98 rfl ?_
                  refine zr_iload hE eX11_copy_100 rfl ?_
                  refine zr_callV2 hE eX11_copy_102 lX11_276 ((fSh_sf zc11)).s0 rfl rfl (by decide) (Nat.le_of_ble_eq_true rfl) (c_X10_hasStretch (fSh_sf zc11) ?_)
                  refine zr_bne hE eX11_copy_105 (tgt := 111) (by decide) (fun zc105 => ?_) (fun zc105 => ?_)
                  · refine zr_aload hE eX11_copy_111 rfl ?_
                    refine zr_getR hE eX11_copy_113 fX11_279 ((fSh_sf zc4)).s0 rfl ?_
                    refine zr_iload_n hE eX11_copy_116 rfl ?_
                    refine zr_aload hE eX11_copy_117 rfl ?_
                    refine zr_getR hE eX11_copy_119 fX11_279 ((fSh_sf zc11)).s0 rfl ?_
                    refine zr_iload hE eX11_copy_122 rfl ?_
                    refine zr_iload hE eX11_copy_124 rfl ?_
                    refine zr_acopy hE eX11_copy_126 laX11_282 ((fSh_sf zc4)).s1 ((fSh_sf zc11)).s1 ?_
                    obtain ⟨xn, xn1, xn2⟩ := hS1 zc57 zc4
                    obtain ⟨xm, xm1, xm2⟩ := hS2 zc66 zc11
                    have xs1 := strOk xn1 xn2 zc93
                    have xs2 := strOk xm1 xm2 zc105
                    refine ⟨⟨xs1.1, xs2.1, xs1.2.1, xs1.2.2, xs2.2.2, Nat.le_of_ble_eq_true rfl, by decide⟩, ?_⟩
                    refine zr_iload hE eX11_copy_129 rfl ?_
                    refine hR.2.1 _ _ _ _ _ _ eX11_copy_131 rfl rfl ?_
                    exact hQ2 (by unfold cpE; rw [if_pos ⟨zc4, zc11⟩, if_neg (fun q => q.elim zc37 zc45), if_pos ⟨zc57, zc66, zc79⟩, if_pos ⟨zc93, zc105⟩])
                  · refine zr_bipush hE eX11_copy_108 (v := -13) (by decide) ?_
                    refine hR.2.1 _ _ _ _ _ _ eX11_copy_110 rfl rfl ?_
                    have x : cpE w d i e j n = -13 := by unfold cpE; rw [if_pos ⟨zc4, zc11⟩, if_neg (fun q => q.elim zc37 zc45), if_pos ⟨zc57, zc66, zc79⟩, if_neg (fun q => by have q1 : strB w (fSh e) j n = false := zc105; rw [q1] at q; exact absurd q.2 (by decide))]
                    rw [x] at hQ1
                    exact hQ1 (by decide)
              · refine zr_bipush hE eX11_copy_82 (v := -12) (by decide) ?_
                refine hR.2.1 _ _ _ _ _ _ eX11_copy_84 rfl rfl ?_
                have x : cpE w d i e j n = -12 := by unfold cpE; rw [if_pos ⟨zc4, zc11⟩, if_neg (fun q => q.elim zc37 zc45), if_neg (fun q => zc79 q.2.2)]
                rw [x] at hQ1
                exact hQ1 (by decide)
        · refine zr_bipush hE eX11_copy_48 (v := -11) (by decide) ?_
          refine hR.2.1 _ _ _ _ _ _ eX11_copy_50 rfl rfl ?_
          have x : cpE w d i e j n = -11 := by unfold cpE; rw [if_pos ⟨zc4, zc11⟩, if_pos (Or.inr zc45)]
          rw [x] at hQ1
          exact hQ1 (by decide)
    · refine zr_iconst hE eX11_copy_14 (v := -1) (by decide) ?_
      refine hR.2.1 _ _ _ _ _ _ eX11_copy_15 rfl rfl ?_
      have x : cpE w d i e j n = -1 := if_neg (fun xq => by have := xq.2; rw [zc11] at this; cases this)
      rw [x] at hQ1
      exact hQ1 (by decide)

