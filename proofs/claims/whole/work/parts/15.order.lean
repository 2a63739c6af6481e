/-! The order of the bowls by their outsides; a heap's loops. -/
theorem vpn {i n : Nat} (h : i < n) (hn : n < 2 ^ 31) : vp_in (nI i) n := vp_in_nI h hn
theorem tw_split {α : Type} {p : α → Bool} : ∀ {l1 l2 : List α}, (∀ y ∈ l1, p y = true) → (∀ y, l2.head? = some y → p y = false) → (l1 ++ l2).takeWhile p = l1 ∧ (l1 ++ l2).dropWhile p = l2
  | [], l2, _, h2 => by
    cases l2 with
    | nil => simp
    | cons a l =>
      have := h2 a rfl
      simp [this]
  | a :: l1, l2, h1, h2 => by
    have ha := h1 a (by simp)
    obtain ⟨e1, e2⟩ := tw_split (l1 := l1) (l2 := l2) (fun y hy => h1 y (by simp [hy])) h2
    simp [ha, e1, e2]
def insO (out : Nat → Int32) (x : Nat) (l : List Nat) : List Nat := l.takeWhile (fun y => decide (out y ≤ out x)) ++ x :: l.dropWhile (fun y => decide (out y ≤ out x))
def ordO (out : Nat → Int32) : Nat → List Nat
  | 0 => []
  | n + 1 => insO out n (ordO out n)
def oB (B : zBv) (b : Nat) : Int32 := fOut B b (B 3 b)
theorem insO_perm (out : Nat → Int32) (x : Nat) (l : List Nat) : (insO out x l).Perm (x :: l) := by
  unfold insO
  have := List.takeWhile_append_dropWhile (p := fun y => decide (out y ≤ out x)) (l := l)
  refine (List.perm_middle).trans ?_
  rw [this]
theorem ordO_perm (out : Nat → Int32) : ∀ n, (ordO out n).Perm (List.range n)
  | 0 => by simp [ordO]
  | n + 1 => by
    rw [ordO, List.range_succ]
    refine (insO_perm out n _).trans ?_
    exact ((ordO_perm out n).cons n).trans (List.perm_append_singleton n (List.range n)).symm
theorem ordO_len (out : Nat → Int32) (n : Nat) : (ordO out n).length = n := by
  rw [(ordO_perm out n).length_eq, List.length_range]
theorem ordO_mem (out : Nat → Int32) (n b : Nat) : b ∈ ordO out n ↔ b < n := by
  rw [(ordO_perm out n).mem_iff, List.mem_range]
theorem ordO_nodup (out : Nat → Int32) (n : Nat) : (ordO out n).Nodup := (ordO_perm out n).nodup_iff.mpr List.nodup_range
/-- sorted; of equal ones the lesser number ahead -/
def sO (out : Nat → Int32) (a b : Nat) : Prop := out a < out b ∨ (out a = out b ∧ a < b)
theorem i32_lt_of_not_le {a b : Int32} (h : ¬ a ≤ b) : b < a := Int32.not_le.mp h
theorem ordO_sorted (out : Nat → Int32) : ∀ n, (ordO out n).Pairwise (sO out)
  | 0 => by simp [ordO]
  | n + 1 => by
    have ih := ordO_sorted out n
    have hm := ordO_mem out n
    rw [ordO, insO]
    generalize ordO out n = l at ih hm
    have hsplit := List.takeWhile_append_dropWhile (p := fun y => decide (out y ≤ out n)) (l := l)
    have hpw : (l.takeWhile (fun y => decide (out y ≤ out n)) ++ l.dropWhile (fun y => decide (out y ≤ out n))).Pairwise (sO out) := by rw [hsplit]; exact ih
    rw [List.pairwise_append] at hpw ⊢
    obtain ⟨p1, p2, p3⟩ := hpw
    have t1 : ∀ a ∈ l.takeWhile (fun y => decide (out y ≤ out n)), out a ≤ out n ∧ a < n := by
      intro a ha
      refine ⟨?_, (hm a).mp (List.takeWhile_sublist _ |>.subset ha)⟩
      have := List.all_takeWhile (p := fun y => decide (out y ≤ out n)) (l := l)
      simpa using List.all_eq_true.mp this a ha
    have t2 : ∀ a ∈ l.dropWhile (fun y => decide (out y ≤ out n)), out n < out a := by
      intro a ha
      cases hd : l.dropWhile (fun y => decide (out y ≤ out n)) with
      | nil => rw [hd] at ha; simp at ha
      | cons z r =>
        have hz : ¬ out z ≤ out n := by
          have h1 : ¬ ((fun y => decide (out y ≤ out n)) z = true) := by
            have := List.head_dropWhile_not (p := fun y => decide (out y ≤ out n)) (l := l) (by rw [hd]; simp)
            simp only [hd, List.head_cons] at this
            simpa using this
          simpa using h1
        have hz := i32_lt_of_not_le hz
        rw [hd] at ha p2
        rcases List.mem_cons.mp ha with rfl | ha
        · exact hz
        · rcases (List.pairwise_cons.mp p2).1 a ha with q | ⟨q, -⟩
          · exact Int32.lt_trans hz q
          · rw [← q]; exact hz
    refine ⟨p1, List.pairwise_cons.mpr ⟨fun a ha => Or.inl (t2 a ha), p2⟩, fun a ha b hb => ?_⟩
    rcases List.mem_cons.mp hb with rfl | hb
    · obtain ⟨q1, q2⟩ := t1 a ha
      rcases Int32.lt_or_eq_of_le q1 with q | q
      · exact Or.inl q
      · exact Or.inr ⟨q, q2⟩
    · exact p3 a ha b hb
theorem ordO_cong {out out' : Nat → Int32} : ∀ n, (∀ b, b < n → out b = out' b) → ordO out n = ordO out' n
  | 0, _ => rfl
  | n + 1, h => by
    rw [ordO, ordO, ordO_cong n (fun b hb => h b (by omega))]
    unfold insO
    have e : ∀ y ∈ ordO out' n, decide (out y ≤ out n) = decide (out' y ≤ out' n) := by
      intro y hy
      have := (ordO_mem out' n y).mp hy
      rw [h y (by omega), h n (by omega)]
    have key : ∀ l : List Nat, (∀ y ∈ l, decide (out y ≤ out n) = decide (out' y ≤ out' n)) → l.takeWhile (fun y => decide (out y ≤ out n)) = l.takeWhile (fun y => decide (out' y ≤ out' n)) ∧ l.dropWhile (fun y => decide (out y ≤ out n)) = l.dropWhile (fun y => decide (out' y ≤ out' n)) := by
      intro l
      induction l with
      | nil => intro _; simp
      | cons a l ih =>
        intro hl
        obtain ⟨i1, i2⟩ := ih (fun y hy => hl y (by simp [hy]))
        have ha := hl a (by simp)
        simp only [List.takeWhile_cons, List.dropWhile_cons, ha, i1, i2, and_self]
    obtain ⟨k1, k2⟩ := key _ e
    rw [k1, k2]
def arrIs (f : Nat → Int32) (l : List Nat) : Prop := ∀ i, i < l.length → f i = nI (l.getD i 0)
theorem hB_off {w u : ww} {h : Nat} (hof : ∀ p, p ≠ h+6 → u p = w p) {k : Nat} (hk : k < 5) (b : Nat) : hB u h k b = hB w h k b := by unfold hB; rw [hof (h + 1 + k) (by omega)]
theorem oB_off {w u : ww} {h : Nat} (hof : ∀ p, p ≠ h+6 → u p = w p) (b : Nat) : oB (hB u h) b = oB (hB w h) b := by unfold oB fOut; rw [hB_off hof (by decide), hB_off hof (by decide), hB_off hof (by decide), hB_off hof (by decide)]
set_option maxHeartbeats 4000000 in
theorem arr_in {G : zG} (hE : zE RX5 cX5_arrange 4 5 G) {h j : Nat} (hh : zH h) (hj : j < 10) (l : List Nat) (hl : l.length = j) (hlm : ∀ y ∈ l, y < j) {u0 : ww} {wd : Int32} (hk : ∀ b, b < j → vp_in (u0 (h+1) b) 8)
    (kk : ∀ (a : Nat) (u : ww) (hja : a ≤ j) (hof : ∀ p, p ≠ h+6 → u p = u0 p) (hlo : ∀ i, i < a → u (h+6) i = nI (l.getD i 0)) (hhi : ∀ i, a < i → i ≤ j → u (h+6) i = nI (l.getD (i-1) 0)) (hgt : ∀ i, a ≤ i → i < j → ¬ oB (hB u0 h) (l.getD i 0) ≤ wd), (a = 0 ∨ oB (hB u0 h) (l.getD (a-1) 0) ≤ wd) → G 77 [some (.ref h), some (.int (nI j)), some (.int wd), some (.int (nI a))] [] u) :
    ∀ (a : Nat) (u : ww) (hja : a ≤ j) (hof : ∀ p, p ≠ h+6 → u p = u0 p) (hlo : ∀ i, i < a → u (h+6) i = nI (l.getD i 0)) (hhi : ∀ i, a < i → i ≤ j → u (h+6) i = nI (l.getD (i-1) 0)) (hgt : ∀ i, a ≤ i → i < j → ¬ oB (hB u0 h) (l.getD i 0) ≤ wd), G 24 [some (.ref h), some (.int (nI j)), some (.int wd), some (.int (nI a))] [] u := by
  intro a
  induction a with
  | zero =>
    intro u hja hof hlo hhi hgt
    refine zr_iload_n hE eX5_arrange_24 rfl ?_
    refine zr_kif_le hE eX5_arrange_25 (tgt := 77) (by decide) (fun zc25 zd25 => ?_) (fun zc25 zd25 => absurd zc25 (by decide))
    exact kk 0 u hja hof hlo hhi hgt (Or.inl rfl)
  | succ a ih =>
    intro u hja hof hlo hhi hgt
    have hlb : l.getD a 0 < j := by
      rw [List.getD_eq_getElem?_getD, List.getElem?_eq_getElem (by omega)]
      exact hlm _ (List.getElem_mem _)
    refine zr_iload_n hE eX5_arrange_24 rfl ?_
    refine zr_kif_le hE eX5_arrange_25 (tgt := 77) (by decide) (fun zc25 zd25 => ?_) (fun zc25 zd25 => ?_)
    · first
        | exact absurd zd25 (nI_nle (by omega) (by omega))
        | exact kk (a + 1) u hja hof hlo hhi hgt (Or.inr (by rw [Nat.add_sub_cancel]; have q := zd54; rw [show fOut (hB u h) (l.getD a 0) (u (h+4) (l.getD a 0)) = oB (hB u h) (l.getD a 0) from rfl, oB_off hof] at q; exact q))
    · refine zr_aload_n hE eX5_arrange_28 rfl ?_
      refine zr_aload_n hE eX5_arrange_29 rfl ?_
      refine zr_getR hE eX5_arrange_30 fX5_27 (hh).s0 rfl ?_
      refine zr_iload_n hE eX5_arrange_33 rfl ?_
      refine zr_iconst hE eX5_arrange_34 (v := 1) (by decide) ?_
      refine zr_isub hE eX5_arrange_35 ?_
      simp only [nI_pred]
      refine zr_iald hE eX5_arrange_36 (hh).s6 (vpn (by omega) (by decide)) ?_
      simp only [nI_clamp (show a < 2 ^ 31 by omega), hlo a (by omega)]
      refine zr_aload_n hE eX5_arrange_37 rfl ?_
      refine zr_getR hE eX5_arrange_38 fX5_21 (hh).s0 rfl ?_
      refine zr_aload_n hE eX5_arrange_41 rfl ?_
      refine zr_getR hE eX5_arrange_42 fX5_27 (hh).s0 rfl ?_
      refine zr_iload_n hE eX5_arrange_45 rfl ?_
      refine zr_iconst hE eX5_arrange_46 (v := 1) (by decide) ?_
      refine zr_isub hE eX5_arrange_47 ?_
      simp only [nI_pred]
      refine zr_iald hE eX5_arrange_48 (hh).s6 (vpn (by omega) (by decide)) ?_
      simp only [nI_clamp (show a < 2 ^ 31 by omega), hlo a (by omega)]
      refine zr_iald hE eX5_arrange_49 (hh).s4 (vpn (show l.getD a 0 < 10 by omega) (by decide)) ?_
      simp only [nI_clamp (show l.getD a 0 < 2 ^ 31 by omega)]
      refine zr_callV2 hE eX5_arrange_50 lX5_99 (hh).s0 rfl rfl (by decide) (Nat.le_of_ble_eq_true rfl) (c_X5_outsideAt hh (vpn (show l.getD a 0 < 10 by omega) (by decide)) (by rw [nI_clamp (by omega), hof (h+1) (by omega)]; exact hk _ hlb) ?_)
      simp only [nI_clamp (show l.getD a 0 < 2 ^ 31 by omega)]
      refine zr_iload_n hE eX5_arrange_53 rfl ?_
      refine zr_kicmp_le hE eX5_arrange_54 (tgt := 77) (by decide) (fun zc54 zd54 => ?_) (fun zc54 zd54 => ?_)
      · first
          | exact absurd zd25 (nI_nle (by omega) (by omega))
          | exact kk (a + 1) u hja hof hlo hhi hgt (Or.inr (by rw [Nat.add_sub_cancel]; have q := zd54; rw [show fOut (hB u h) (l.getD a 0) (u (h+4) (l.getD a 0)) = oB (hB u h) (l.getD a 0) from rfl, oB_off hof] at q; exact q))
      · refine zr_aload_n hE eX5_arrange_57 rfl ?_
        refine zr_getR hE eX5_arrange_58 fX5_27 (hh).s0 rfl ?_
        refine zr_iload_n hE eX5_arrange_61 rfl ?_
        refine zr_aload_n hE eX5_arrange_62 rfl ?_
        refine zr_getR hE eX5_arrange_63 fX5_27 (hh).s0 rfl ?_
        refine zr_iload_n hE eX5_arrange_66 rfl ?_
        refine zr_iconst hE eX5_arrange_67 (v := 1) (by decide) ?_
        refine zr_isub hE eX5_arrange_68 ?_
        simp only [nI_pred]
        refine zr_iald hE eX5_arrange_69 (hh).s6 (vpn (by omega) (by decide)) ?_
        simp only [nI_clamp (show a < 2 ^ 31 by omega), hlo a (by omega)]
        refine zr_iast hE eX5_arrange_70 (hh).s6 (vpn (by omega) (by decide)) ?_
        refine zr_idecN hE eX5_arrange_71 rfl (by decide) rfl ?_
        refine zr_goto hE eX5_arrange_74 (tgt := 24) (by decide) ?_
        refine ih _ (by omega) (fun p hp => ?_) (fun i hi => ?_) (fun i h1 h2 => ?_) (fun i h1 h2 => ?_)
        · funext q; rw [wu_ne hp]; exact congrFun (hof p hp) q
        · rw [nI_clamp (by omega), wu_nj (by omega)]; exact hlo i (by omega)
        · by_cases q : i = a + 1
          · subst q; rw [nI_clamp (by omega), wu_eq, Nat.add_sub_cancel]
          · rw [nI_clamp (by omega), wu_nj q]; exact hhi i (by omega) h2
        · by_cases q : i = a
          · subst q; have q2 := zc54; rw [show fOut (hB u h) (l.getD i 0) (u (h+4) (l.getD i 0)) = oB (hB u h) (l.getD i 0) from rfl, oB_off hof] at q2; exact zlt_le q2
          · exact hgt i (by omega) h2
theorem ord_put {out : Nat → Int32} {j a h : Nat} {u : ww} (hlen : (ordO out j).length = j) (hlo : ∀ i, i < a → u (h+6) i = nI ((ordO out j).getD i 0)) (hhi : ∀ i, a < i → i ≤ j → u (h+6) i = nI ((ordO out j).getD (i-1) 0)) (hgt : ∀ i, a ≤ i → i < j → ¬ out ((ordO out j).getD i 0) ≤ out j) (hle : a = 0 ∨ out ((ordO out j).getD (a-1) 0) ≤ out j) (hja : a ≤ j) : ∀ i, i < j + 1 → wu u (h+6) a (nI j) (h+6) i = nI ((ordO out (j+1)).getD i 0) := by
  have hs := ordO_sorted out j
  rw [ordO]
  generalize ordO out j = l at hlen hlo hhi hgt hle hs ⊢
  have hg : ∀ i, i < j → l[i]? = some (l.getD i 0) := fun i hi => by
    rw [List.getD_eq_getElem?_getD, List.getElem?_eq_getElem (by omega)]; rfl
  obtain ⟨e1, e2⟩ := tw_split (p := fun y => decide (out y ≤ out j)) (l1 := l.take a) (l2 := l.drop a) (fun y hy => by
    rw [decide_eq_true_eq]
    rcases hle with rfl | hle
    · simp at hy
    · obtain ⟨i, hi, rfl⟩ := List.getElem_of_mem hy
      rw [List.length_take] at hi
      have hi2 : i < l.length := by omega
      rw [List.getElem_take]
      by_cases q : i = a - 1
      · have := hg (a - 1) (by omega)
        rw [List.getElem?_eq_getElem (by omega)] at this
        have e := Option.some.inj this
        subst q
        rw [e]; exact hle
      · have h1 := List.pairwise_iff_getElem.mp hs i (a - 1) hi2 (by omega) (by omega)
        have := hg (a - 1) (by omega)
        rw [List.getElem?_eq_getElem (by omega)] at this
        have e := Option.some.inj this
        rw [e] at h1
        rcases h1 with h1 | ⟨h1, -⟩
        · exact Int32.le_trans (Int32.le_of_lt h1) hle
        · rw [h1]; exact hle) (fun y hy => by
    rw [List.head?_drop] at hy
    have ha : a < l.length := (List.getElem?_eq_some_iff.mp hy).1
    have := hg a (by omega)
    rw [this] at hy
    cases hy
    exact decide_eq_false (hgt a (Nat.le_refl _) (by omega)))
  rw [List.take_append_drop] at e1 e2
  intro i hi
  unfold insO
  rw [e1, e2, List.getD_eq_getElem?_getD]
  by_cases h1 : i < a
  · rw [wu_nj (by omega), hlo i h1, List.getElem?_append_left (by rw [List.length_take]; omega), List.getElem?_take_of_lt h1, hg i (by omega)]; rfl
  · rw [List.getElem?_append_right (by rw [List.length_take]; omega), List.length_take, Nat.min_eq_left (by omega)]
    by_cases h2 : i = a
    · subst h2; rw [wu_eq, Nat.sub_self]; rfl
    · rw [wu_nj h2, hhi i (by omega) (by omega)]
      obtain ⟨z, hz⟩ : ∃ z, i - a = z + 1 := ⟨i - a - 1, by omega⟩
      rw [hz, List.getElem?_cons_succ, List.getElem?_drop, show a + z = i - 1 by omega, hg (i - 1) (by omega)]; rfl
set_option maxHeartbeats 4000000 in
theorem c_X5_arrange {h c : Nat} {w : ww} {Q : Option Value → ww → Prop} (hh : zH h) (hc : c ≤ 10) (hcw : w h 7 = nI c) (hk : ∀ b, b < c → vp_in (w (h+1) b) 8) (hQ : ∀ u : ww, (∀ p, p ≠ h+6 → u p = w p) → (∀ i, i < c → u (h+6) i = nI ((ordO (oB (hB w h)) c).getD i 0)) → Q none u) : Ct mX5_arrange 5 [.ref h] w Q := by
  refine Ct.of (by decide) (Nat.le_of_ble_eq_true rfl) (fun _ => Nat.le_of_ble_eq_true rfl) (fun G hR => ?_)
  have hE := hR.1
  have loop : ∀ (k j : Nat) (u : ww), j ≤ c → c - j = k → (∀ p, p ≠ h+6 → u p = w p) → (∀ i, i < j → u (h+6) i = nI ((ordO (oB (hB w h)) j).getD i 0)) → G 2 [some (.ref h), some (.int (nI j)), none, none] [] u := by
    intro k
    induction k with
    | zero =>
      intro j u hjc hk0 hof hin
      have hjc : j = c := by omega
      subst hjc
      refine zr_iload_n hE eX5_arrange_2 rfl ?_
      refine zr_aload_n hE eX5_arrange_3 rfl ?_
      refine zr_getI hE eX5_arrange_4 fX5_34 hh.s0 rfl ?_
      refine zr_kicmp_ge hE eX5_arrange_7 (tgt := 90) (by decide) (fun zc7 zd7 => ?_) (fun zc7 zd7 => ?_)
      · refine hR.2.2.2 _ _ _ _ eX5_arrange_90 rfl ?_
        exact hQ u hof hin
      · rw [show u h 7 = nI j by rw [hof h (by omega)]; exact hcw, nI_ltI (by omega) (by omega)] at zc7
        omega
    | succ k ih0 =>
      intro j u hjc hk0 hof hin
      have ih : ∀ (j : Nat) (u : ww), j ≤ c → c - j = k → (∀ p, p ≠ h+6 → u p = w p) → (∀ i, i < j → u (h+6) i = nI ((ordO (oB (hB w h)) j).getD i 0)) → G 2 [some (.ref h), some (.int (nI j)), none, none] [] u := ih0
      have hlen := ordO_len (oB (hB w h)) j
      have kk2 : ∀ (a : Nat) (u2 : ww), a ≤ j → (∀ p, p ≠ h+6 → u2 p = u p) → (∀ i, i < a → u2 (h+6) i = nI ((ordO (oB (hB w h)) j).getD i 0)) → (∀ i, a < i → i ≤ j → u2 (h+6) i = nI ((ordO (oB (hB w h)) j).getD (i-1) 0)) → (∀ i, a ≤ i → i < j → ¬ oB (hB u h) ((ordO (oB (hB w h)) j).getD i 0) ≤ oB (hB u h) j) → (a = 0 ∨ oB (hB u h) ((ordO (oB (hB w h)) j).getD (a-1) 0) ≤ oB (hB u h) j) → G 77 [some (.ref h), some (.int (nI j)), some (.int (oB (hB u h) j)), some (.int (nI a))] [] u2 := by
        intro a u2 hja hof2 hlo hhi hgt hle
        simp only [oB_off hof] at hgt hle ⊢
        refine zr_aload_n hE eX5_arrange_77 rfl ?_
        refine zr_getR hE eX5_arrange_78 fX5_27 (hh).s0 rfl ?_
        refine zr_iload_n hE eX5_arrange_81 rfl ?_
        refine zr_iload_n hE eX5_arrange_82 rfl ?_
        refine zr_iast hE eX5_arrange_83 (hh).s6 (vpn (by omega) (by decide)) ?_
        refine zr_iincN hE eX5_arrange_84 rfl (by decide) rfl ?_
        refine zr_goto hE eX5_arrange_87 (tgt := 2) (by decide) ?_
        refine zr_mask hE [true, true, false, false] ?_
        refine ih (j + 1) _ (by omega) (by omega) (fun p hp => ?_) (fun i hi => ?_)
        · funext q; rw [wu_ne hp]; exact congrFun ((hof2 p hp).trans (hof p hp)) q
        · rw [nI_clamp (by omega)]
          exact ord_put hlen hlo hhi hgt hle hja i hi
      refine zr_iload_n hE eX5_arrange_2 rfl ?_
      refine zr_aload_n hE eX5_arrange_3 rfl ?_
      refine zr_getI hE eX5_arrange_4 fX5_34 (hh).s0 rfl ?_
      rw [show u h 7 = nI c by rw [hof h (by omega)]; exact hcw]
      refine zr_kicmp_ge hE eX5_arrange_7 (tgt := 90) (by decide) (fun zc7 zd7 => ?_) (fun zc7 zd7 => ?_)
      · refine hR.2.2.2 _ _ _ _ eX5_arrange_90 rfl ?_
        have hjc : j = c := by
          have q := zc7
          rw [nI_ltI (by omega) (by omega)] at q
          omega
        subst hjc
        exact hQ u hof hin
      · refine zr_aload_n hE eX5_arrange_10 rfl ?_
        refine zr_iload_n hE eX5_arrange_11 rfl ?_
        refine zr_aload_n hE eX5_arrange_12 rfl ?_
        refine zr_getR hE eX5_arrange_13 fX5_21 (hh).s0 rfl ?_
        refine zr_iload_n hE eX5_arrange_16 rfl ?_
        refine zr_iald hE eX5_arrange_17 (hh).s4 (vpn (by omega) (by decide)) ?_
        refine zr_callV2 hE eX5_arrange_18 lX5_99 (hh).s0 rfl rfl (by decide) (Nat.le_of_ble_eq_true rfl) (c_X5_outsideAt hh (vpn (by omega) (by decide)) (by rw [nI_clamp (by omega), hof (h+1) (by omega)]; exact hk _ (by omega)) ?_)
        simp only [nI_clamp (show j < 2 ^ 31 by omega)]
        refine zr_istore_n hE eX5_arrange_21 (by decide) rfl ?_
        refine zr_iload_n hE eX5_arrange_22 rfl ?_
        refine zr_istore_n hE eX5_arrange_23 (by decide) rfl ?_
        exact arr_in hE hh (by omega) (ordO (oB (hB w h)) j) (ordO_len _ _) (fun y hy => (ordO_mem _ _ _).mp hy) (fun b hb => by rw [hof (h+1) (by omega)]; exact hk b (by omega)) kk2 j u (Nat.le_refl _) (fun _ _ => rfl) hin (fun i h1 h2 => by omega) (fun i h1 h2 => by omega)
  refine zr_iconst hE eX5_arrange_0 (v := 0) (by decide) ?_
  refine zr_istore_n hE eX5_arrange_1 (by decide) rfl ?_
  exact loop c 0 w (Nat.zero_le _) rfl (fun _ _ => rfl) (fun i hi => by omega)
