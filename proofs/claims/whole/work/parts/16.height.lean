/-! heightOf, pairsIn, allDepths. -/
def iBit (x : Int32) (b : Nat) : Bool := decide ((x >>> (nI b &&& 31)) &&& 1 = 1)
def hgO (lz : Nat → Nat → Bool) (ri : Nat → Int32) (mem : Nat → Bool) : List Nat → Option Nat → Int32 → Option (Option Nat × Int32)
  | [], inn, hi => some (inn, hi)
  | b :: l, inn, hi => if mem b then (match inn with
    | some a => if lz a b then hgO lz ri mem l (some b) (hi + ri a) else none
    | none => hgO lz ri mem l (some b) (hi + 0)) else hgO lz ri mem l inn hi
theorem hgO_s1 {lz : Nat → Nat → Bool} {ri : Nat → Int32} {mem : Nat → Bool} {a b : Nat} {l : List Nat} {hi : Int32} (hm : mem b = true) (hl : lz a b = true) : hgO lz ri mem (b :: l) (some a) hi = hgO lz ri mem l (some b) (hi + ri a) := by simp [hgO, hm, hl]
theorem hgO_n1 {lz : Nat → Nat → Bool} {ri : Nat → Int32} {mem : Nat → Bool} {b : Nat} {l : List Nat} {hi : Int32} (hm : mem b = true) : hgO lz ri mem (b :: l) none hi = hgO lz ri mem l (some b) (hi + 0) := by simp [hgO, hm]
theorem hgO_f {lz : Nat → Nat → Bool} {ri : Nat → Int32} {mem : Nat → Bool} {a b : Nat} {l : List Nat} {hi : Int32} (hm : mem b = true) (hl : lz a b = false) : hgO lz ri mem (b :: l) (some a) hi = none := by simp [hgO, hm, hl]
theorem hgO_0 {lz : Nat → Nat → Bool} {ri : Nat → Int32} {mem : Nat → Bool} {b : Nat} {l : List Nat} {inn : Option Nat} {hi : Int32} (hm : mem b = false) : hgO lz ri mem (b :: l) inn hi = hgO lz ri mem l inn hi := by simp [hgO, hm]
def hgR (de : Nat → Int32) : Option (Option Nat × Int32) → Int32
  | some (some a, hi) => hi + de a
  | _ => 0
def fHg (B : zBv) (v : Int32) (c : Nat) (bits : Int32) : Int32 := hgR (B 4) (hgO (fun a b => fLi B a b v) (fRi B) (iBit bits) (ordO (oB B) c) none 0)
theorem fLi_cong {B B' : zBv} {a b : Nat} {v : Int32} (ha : ∀ k, k < 5 → B k a = B' k a) (hb : ∀ k, k < 5 → B k b = B' k b) : fLi B a b v = fLi B' a b v := by
  unfold fLi fAg fOut fIn
  simp only [ha 0 (by decide), ha 1 (by decide), ha 2 (by decide), ha 3 (by decide), ha 4 (by decide), hb 0 (by decide), hb 1 (by decide), hb 2 (by decide), hb 3 (by decide), hb 4 (by decide)]
theorem fRi_cong {B B' : zBv} {a : Nat} (ha : ∀ k, k < 5 → B k a = B' k a) : fRi B a = fRi B' a := by
  unfold fRi; rw [ha 0 (by decide), ha 1 (by decide)]
theorem fLi_off {w u : ww} {h : Nat} (hof : ∀ p, p ≠ h+6 → u p = w p) (a b : Nat) (v : Int32) : fLi (hB u h) a b v = fLi (hB w h) a b v := fLi_cong (fun k hk => hB_off hof hk a) (fun k hk => hB_off hof hk b)
theorem fRi_off {w u : ww} {h : Nat} (hof : ∀ p, p ≠ h+6 → u p = w p) (a : Nat) : fRi (hB u h) a = fRi (hB w h) a := fRi_cong (fun k hk => hB_off hof hk a)
def enc : Option Nat → Int32
  | none => -1
  | some a => nI a
theorem drop_cons {l : List Nat} {i : Nat} (h : i < l.length) : l.drop i = l.getD i 0 :: l.drop (i + 1) := by
  rw [List.drop_eq_getElem_cons h, List.getD_eq_getElem?_getD, List.getElem?_eq_getElem h]; rfl
set_option maxHeartbeats 4000000 in
theorem c_X5_heightOf {h c : Nat} {bits : Int32} {w : ww} {Q : Option Value → ww → Prop} (hh : zH h) (hc : c ≤ 10) (hcw : w h 7 = nI c) (hk : ∀ b, b < c → vp_in (w (h+1) b) 8) (hQ : ∀ u : ww, (∀ p, p ≠ h+6 → u p = w p) → Q (some (.int (fHg (hB w h) (w h 8) c bits))) u) : Ct mX5_heightOf 6 [.ref h, .int bits] w Q := by
  refine Ct.of (by decide) (Nat.le_of_ble_eq_true rfl) (fun _ => Nat.le_of_ble_eq_true rfl) (fun G hR => ?_)
  have hE := hR.1

  have key : ∀ (u : ww), (∀ p, p ≠ h+6 → u p = w p) → (∀ i, i < c → u (h+6) i = nI ((ordO (oB (hB w h)) c).getD i 0)) → G 4 [some (.ref h), some (.int bits), none, none, none, none] [] u := by
    intro u hof hin
    have hlen := ordO_len (oB (hB w h)) c
    have hlm : ∀ y ∈ ordO (oB (hB w h)) c, y < c := fun y hy => (ordO_mem _ _ _).mp hy
    generalize hr : fHg (hB w h) (w h 8) c bits = r at hQ
    unfold fHg at hr
    generalize ordO (oB (hB w h)) c = l at hin hlen hlm hr
    have loop : ∀ (k i : Nat), i ≤ c → c - i = k → ∀ (inn : Option Nat) (hi : Int32), (∀ a, inn = some a → a < c) → hgR ((hB w h) 4) (hgO (fun a b => fLi (hB w h) a b (w h 8)) (fRi (hB w h)) (iBit bits) (l.drop i) inn hi) = r → G 11 [some (.ref h), some (.int bits), some (.int (enc inn)), some (.int hi), some (.int (nI i)), none] [] u := by
      intro k
      induction k with
      | zero =>
        intro i hic0 hk0 inn hi ha hr
        have hic : c ≤ i := by omega
        refine zr_iload hE eX5_heightOf_11 rfl ?_
        refine zr_aload_n hE eX5_heightOf_13 rfl ?_
        refine zr_getI hE eX5_heightOf_14 fX5_34 hh.s0 rfl ?_
        rw [show u h 7 = nI c by rw [hof h (by omega)]; exact hcw]
        refine zr_kicmp_ge hE eX5_heightOf_17 (tgt := 84) (by decide) (fun zc17 zd17 => ?_) (fun zc17 zd17 => absurd zc17 (by rw [nI_ltI (by omega) (by omega)]; omega))
        rw [show l.drop i = [] from List.drop_eq_nil_of_le (by omega)] at hr
        simp only [hgO] at hr
        rcases inn with _ | a <;> simp only [enc]
        · refine zr_iload_n hE eX5_heightOf_84 rfl ?_
          refine zr_kif_lt hE eX5_heightOf_85 (tgt := 99) (by decide) (fun zc85 zd85 => ?_) (fun zc85 zd85 => absurd zc85 (by decide))
          refine zr_iconst hE eX5_heightOf_99 (v := 0) (by decide) ?_
          refine hR.2.1 _ _ _ _ _ _ eX5_heightOf_100 rfl rfl ?_
          refine zq (hQ u hof) ?_
          rw [← hr]; rfl
        · have ha := ha a rfl
          refine zr_iload_n hE eX5_heightOf_84 rfl ?_
          refine zr_kif_lt hE eX5_heightOf_85 (tgt := 99) (by decide) (fun zc85 zd85 => absurd (nI_pos' (show a < 2 ^ 31 by omega)) zc85) (fun zc85 zd85 => ?_)
          refine zr_iload_n hE eX5_heightOf_88 rfl ?_
          refine zr_aload_n hE eX5_heightOf_89 rfl ?_
          refine zr_getR hE eX5_heightOf_90 fX5_24 hh.s0 rfl ?_
          refine zr_iload_n hE eX5_heightOf_93 rfl ?_
          refine zr_iald hE eX5_heightOf_94 hh.s5 (vpn (show a < 10 by omega) (by decide)) ?_
          refine zr_iadd hE eX5_heightOf_95 ?_
          refine zr_goto hE eX5_heightOf_96 (tgt := 100) (by decide) ?_
          refine hR.2.1 _ _ _ _ _ _ eX5_heightOf_100 rfl rfl ?_
          refine zq (hQ u hof) ?_
          rw [← hr, nI_clamp (by omega), hof (h+5) (by omega)]; rfl
      | succ k ih0 =>
        intro i hic0 hk0 inn hi ha hr
        have hi0 : i < c := by omega
        have hil : i < l.length := by omega
        have hlb : l.getD i 0 < c := by
          rw [List.getD_eq_getElem?_getD, List.getElem?_eq_getElem hil]
          exact hlm _ (List.getElem_mem _)
        have ih : ∀ (i : Nat), i ≤ c → c - i = k → ∀ (inn : Option Nat) (hi : Int32), (∀ a, inn = some a → a < c) → hgR ((hB w h) 4) (hgO (fun a b => fLi (hB w h) a b (w h 8)) (fRi (hB w h)) (iBit bits) (l.drop i) inn hi) = r → G 11 [some (.ref h), some (.int bits), some (.int (enc inn)), some (.int hi), some (.int (nI i)), none] [] u := ih0
        rcases inn with _ | a
        · simp only [enc]
          refine zr_iload hE eX5_heightOf_11 rfl ?_
          refine zr_aload_n hE eX5_heightOf_13 rfl ?_
          refine zr_getI hE eX5_heightOf_14 fX5_34 (hh).s0 rfl ?_
          rw [show u h 7 = nI c by rw [hof h (by omega)]; exact hcw]
          refine zr_kicmp_ge hE eX5_heightOf_17 (tgt := 84) (by decide) (fun zc17 zd17 => absurd ((nI_ltI (by omega) (by omega)).mpr hi0) zc17) (fun zc17 zd17 => ?_)
          refine zr_aload_n hE eX5_heightOf_20 rfl ?_
          refine zr_getR hE eX5_heightOf_21 fX5_27 (hh).s0 rfl ?_
          refine zr_iload hE eX5_heightOf_24 rfl ?_
          refine zr_iald hE eX5_heightOf_26 (hh).s6 (vpn (show i < 10 by omega) (by decide)) ?_
          simp only [nI_clamp (show i < 2 ^ 31 by omega), hin i hi0]
          refine zr_istore hE eX5_heightOf_27 (by decide) rfl ?_
          refine zr_iload_n hE eX5_heightOf_29 rfl ?_
          refine zr_iload hE eX5_heightOf_30 rfl ?_
          refine zr_ishr hE eX5_heightOf_32 ?_
          refine zr_iconst hE eX5_heightOf_33 (v := 1) (by decide) ?_
          refine zr_iand hE eX5_heightOf_34 ?_
          refine zr_iconst hE eX5_heightOf_35 (v := 1) (by decide) ?_
          refine zr_icmp_ne hE eX5_heightOf_36 (tgt := 78) (by decide) (fun zc36 => ?_) (fun zc36 => ?_)
          · refine zr_iincN hE eX5_heightOf_78 rfl (by decide) rfl ?_
            refine zr_goto hE eX5_heightOf_81 (tgt := 11) (by decide) ?_
            first
              | (refine zr_mask hE [true, true, true, true, true, false] ?_
                 refine ih (i + 1) (by omega) (by omega) (some (l.getD i 0)) _ (fun _ hx => by cases hx; exact hlb) ?_
                 rw [← hr, drop_cons hil]
                 have q : iBit bits (l.getD i 0) = true := decide_eq_true zc36
                 rw [hgO_n1 q])
              | (refine zr_mask hE [true, true, true, true, true, false] ?_
                 refine ih (i + 1) (by omega) (by omega) none _ (fun _ hx => by cases hx) ?_
                 rw [← hr, drop_cons hil]
                 have q : iBit bits (l.getD i 0) = false := decide_eq_false zc36
                 rw [hgO_0 q])
          · refine zr_iload_n hE eX5_heightOf_39 rfl ?_
            refine zr_kif_lt hE eX5_heightOf_40 (tgt := 59) (by decide) (fun _ zd40 => ?_) (fun zc40 zd40 => absurd zc40 (by decide))
            refine zr_iload_n hE eX5_heightOf_59 rfl ?_
            refine zr_iload_n hE eX5_heightOf_60 rfl ?_
            refine zr_kif_lt hE eX5_heightOf_61 (tgt := 72) (by decide) (fun _ zd61 => ?_) (fun zc61 zd61 => absurd zc61 (by decide))
            refine zr_iconst hE eX5_heightOf_72 (v := 0) (by decide) ?_
            refine zr_iadd hE eX5_heightOf_73 ?_
            refine zr_istore_n hE eX5_heightOf_74 (by decide) rfl ?_
            refine zr_iload hE eX5_heightOf_75 rfl ?_
            refine zr_istore_n hE eX5_heightOf_77 (by decide) rfl ?_
            refine zr_iincN hE eX5_heightOf_78 rfl (by decide) rfl ?_
            refine zr_goto hE eX5_heightOf_81 (tgt := 11) (by decide) ?_
            first
              | (refine zr_mask hE [true, true, true, true, true, false] ?_
                 refine ih (i + 1) (by omega) (by omega) (some (l.getD i 0)) _ (fun _ hx => by cases hx; exact hlb) ?_
                 rw [← hr, drop_cons hil]
                 have q : iBit bits (l.getD i 0) = true := decide_eq_true zc36
                 rw [hgO_n1 q])
              | (refine zr_mask hE [true, true, true, true, true, false] ?_
                 refine ih (i + 1) (by omega) (by omega) none _ (fun _ hx => by cases hx) ?_
                 rw [← hr, drop_cons hil]
                 have q : iBit bits (l.getD i 0) = false := decide_eq_false zc36
                 rw [hgO_0 q])
        · have ha0 := ha a rfl
          simp only [enc]
          refine zr_iload hE eX5_heightOf_11 rfl ?_
          refine zr_aload_n hE eX5_heightOf_13 rfl ?_
          refine zr_getI hE eX5_heightOf_14 fX5_34 (hh).s0 rfl ?_
          rw [show u h 7 = nI c by rw [hof h (by omega)]; exact hcw]
          refine zr_kicmp_ge hE eX5_heightOf_17 (tgt := 84) (by decide) (fun zc17 zd17 => absurd ((nI_ltI (by omega) (by omega)).mpr hi0) zc17) (fun zc17 zd17 => ?_)
          refine zr_aload_n hE eX5_heightOf_20 rfl ?_
          refine zr_getR hE eX5_heightOf_21 fX5_27 (hh).s0 rfl ?_
          refine zr_iload hE eX5_heightOf_24 rfl ?_
          refine zr_iald hE eX5_heightOf_26 (hh).s6 (vpn (show i < 10 by omega) (by decide)) ?_
          simp only [nI_clamp (show i < 2 ^ 31 by omega), hin i hi0]
          refine zr_istore hE eX5_heightOf_27 (by decide) rfl ?_
          refine zr_iload_n hE eX5_heightOf_29 rfl ?_
          refine zr_iload hE eX5_heightOf_30 rfl ?_
          refine zr_ishr hE eX5_heightOf_32 ?_
          refine zr_iconst hE eX5_heightOf_33 (v := 1) (by decide) ?_
          refine zr_iand hE eX5_heightOf_34 ?_
          refine zr_iconst hE eX5_heightOf_35 (v := 1) (by decide) ?_
          refine zr_icmp_ne hE eX5_heightOf_36 (tgt := 78) (by decide) (fun zc36 => ?_) (fun zc36 => ?_)
          · refine zr_iincN hE eX5_heightOf_78 rfl (by decide) rfl ?_
            refine zr_goto hE eX5_heightOf_81 (tgt := 11) (by decide) ?_
            first
              | (refine zr_mask hE [true, true, true, true, true, false] ?_
                 refine ih (i + 1) (by omega) (by omega) (some (l.getD i 0)) _ (fun _ hx => by cases hx; exact hlb) ?_
                 rw [← hr, drop_cons hil]
                 have q : iBit bits (l.getD i 0) = true := decide_eq_true zc36
                 rw [hgO_s1 (lz := fun a b => fLi (hB w h) a b (w h 8)) q zc54])
              | (refine zr_mask hE [true, true, true, true, true, false] ?_
                 refine ih (i + 1) (by omega) (by omega) (some a) _ ha ?_
                 rw [← hr, drop_cons hil]
                 have q : iBit bits (l.getD i 0) = false := decide_eq_false zc36
                 rw [hgO_0 q])
          · refine zr_iload_n hE eX5_heightOf_39 rfl ?_
            refine zr_kif_lt hE eX5_heightOf_40 (tgt := 59) (by decide) (fun zc40 zd40 => absurd (nI_pos' (show a < 2 ^ 31 by omega)) zc40) (fun zc40 zd40 => ?_)
            refine zr_aload_n hE eX5_heightOf_43 rfl ?_
            refine zr_iload_n hE eX5_heightOf_44 rfl ?_
            refine zr_iload hE eX5_heightOf_45 rfl ?_
            refine zr_aload_n hE eX5_heightOf_47 rfl ?_
            refine zr_getI hE eX5_heightOf_48 fX5_38 (hh).s0 rfl ?_
            refine zr_callV3 hE eX5_heightOf_51 lX5_117 (hh).s0 rfl rfl (by decide) (Nat.le_of_ble_eq_true rfl) (c_X5_isIn hh (vpn (show a < 10 by omega) (by decide)) (vpn (show l.getD i 0 < 10 by omega) (by decide)) (by rw [nI_clamp (by omega), hof (h+1) (by omega)]; exact hk _ (by omega)) (by rw [nI_clamp (by omega), hof (h+1) (by omega)]; exact hk _ (by omega)) ?_)
            simp only [nI_clamp (show a < 2 ^ 31 by omega), nI_clamp (show l.getD i 0 < 2 ^ 31 by omega), fLi_off hof]
            rw [show u h 8 = w h 8 by rw [hof h (by omega)]]
            refine zr_bne hE eX5_heightOf_54 (tgt := 59) (by decide) (fun zc54 => ?_) (fun zc54 => ?_)
            · refine zr_iload_n hE eX5_heightOf_59 rfl ?_
              refine zr_iload_n hE eX5_heightOf_60 rfl ?_
              refine zr_kif_lt hE eX5_heightOf_61 (tgt := 72) (by decide) (fun zc61 zd61 => absurd (nI_pos' (show a < 2 ^ 31 by omega)) zc61) (fun zc61 zd61 => ?_)
              refine zr_aload_n hE eX5_heightOf_64 rfl ?_
              refine zr_iload_n hE eX5_heightOf_65 rfl ?_
              refine zr_callV1 hE eX5_heightOf_66 lX5_121 (hh).s0 rfl rfl (by decide) (Nat.le_of_ble_eq_true rfl) (c_X5_riseOf hh (vpn (show a < 10 by omega) (by decide)) (by rw [nI_clamp (by omega), hof (h+1) (by omega)]; exact hk _ (by omega)) ?_)
              simp only [nI_clamp (show a < 2 ^ 31 by omega), fRi_off hof]
              refine zr_goto hE eX5_heightOf_69 (tgt := 73) (by decide) ?_
              refine zr_iadd hE eX5_heightOf_73 ?_
              refine zr_istore_n hE eX5_heightOf_74 (by decide) rfl ?_
              refine zr_iload hE eX5_heightOf_75 rfl ?_
              refine zr_istore_n hE eX5_heightOf_77 (by decide) rfl ?_
              refine zr_iincN hE eX5_heightOf_78 rfl (by decide) rfl ?_
              refine zr_goto hE eX5_heightOf_81 (tgt := 11) (by decide) ?_
              first
                | (refine zr_mask hE [true, true, true, true, true, false] ?_
                   refine ih (i + 1) (by omega) (by omega) (some (l.getD i 0)) _ (fun _ hx => by cases hx; exact hlb) ?_
                   rw [← hr, drop_cons hil]
                   have q : iBit bits (l.getD i 0) = true := decide_eq_true zc36
                   rw [hgO_s1 (lz := fun a b => fLi (hB w h) a b (w h 8)) q zc54])
                | (refine zr_mask hE [true, true, true, true, true, false] ?_
                   refine ih (i + 1) (by omega) (by omega) (some a) _ ha ?_
                   rw [← hr, drop_cons hil]
                   have q : iBit bits (l.getD i 0) = false := decide_eq_false zc36
                   rw [hgO_0 q])
            · refine zr_iconst hE eX5_heightOf_57 (v := 0) (by decide) ?_
              refine hR.2.1 _ _ _ _ _ _ eX5_heightOf_58 rfl rfl ?_
              refine zq (hQ u hof) ?_
              rw [← hr, drop_cons hil]
              have q : iBit bits (l.getD i 0) = true := decide_eq_true zc36
              rw [hgO_f (lz := fun a b => fLi (hB w h) a b (w h 8)) q zc54]
              rfl
    refine zr_iconst hE eX5_heightOf_4 (v := -1) (by decide) ?_
    refine zr_istore_n hE eX5_heightOf_5 (by decide) rfl ?_
    refine zr_iconst hE eX5_heightOf_6 (v := 0) (by decide) ?_
    refine zr_istore_n hE eX5_heightOf_7 (by decide) rfl ?_
    refine zr_iconst hE eX5_heightOf_8 (v := 0) (by decide) ?_
    refine zr_istore hE eX5_heightOf_9 (by decide) rfl ?_
    exact loop c 0 (Nat.zero_le _) rfl none 0 (fun _ hx => by cases hx) hr
  refine zr_aload_n hE eX5_heightOf_0 rfl ?_
  refine zr_callV0 hE eX5_heightOf_1 lX5_114 hh.s0 rfl rfl (by decide) (Nat.le_of_ble_eq_true rfl) (c_X5_arrange hh hc hcw hk (fun u hof hin => ?_))
  exact key u hof hin
