/-! How the nests are found. -/
abbrev zE3 : Type := Nat × Nat × Int32
def nNote (w : ww) (s : Nat) (inn hi set : Int32) : ww := wu (wu (wu (wu w 32 s hi) 33 s inn) 34 (w 31 8).toNatClampNeg set) 31 8 (w 31 8 + 1)
def Rep (w : ww) (F : List zE3) : Prop := w 31 8 = nI F.length ∧ (∀ i, i < F.length → w 34 i = nI (F.getD i (0, 0, 0)).1) ∧ ∀ e ∈ F, w 33 e.1 = nI e.2.1 ∧ w 32 e.1 = e.2.2
theorem Rep.note {w : ww} {F : List zE3} (h : Rep w F) {e : zE3} (hl : F.length < 512) (hne : ∀ x ∈ F, x.1 ≠ e.1) : Rep (nNote w e.1 (nI e.2.1) e.2.2 (nI e.1)) (F ++ [e]) := by
  obtain ⟨h1, h2, h3⟩ := h
  have hc : (w 31 8).toNatClampNeg = F.length := by rw [h1, nI_clamp (by omega)]
  refine ⟨?_, fun i hi => ?_, fun x hx => ?_⟩
  · unfold nNote; rw [wu_eq, h1, nI_1]; simp
  · unfold nNote
    rw [wu_ne (by decide), hc]
    rw [List.length_append, List.length_singleton] at hi
    by_cases q : i = F.length
    · subst q; rw [wu_eq]; simp
    · rw [wu_nj q, wu_ne (by decide), wu_ne (by decide), h2 i (by omega)]
      rw [List.getD_eq_getElem?_getD, List.getD_eq_getElem?_getD, List.getElem?_append_left (by omega)]
  · unfold nNote
    rcases List.mem_append.mp hx with hx | hx
    · have hn := hne x hx
      refine ⟨?_, ?_⟩
      · rw [wu_ne (by decide), wu_ne (by decide), wu_nj hn, wu_ne (by decide)]; exact (h3 x hx).1
      · rw [wu_ne (by decide), wu_ne (by decide), wu_ne (by decide), wu_nj hn]; exact (h3 x hx).2
    · rw [List.mem_singleton] at hx
      subst hx
      refine ⟨?_, ?_⟩
      · rw [wu_ne (by decide), wu_ne (by decide), wu_eq]
      · rw [wu_ne (by decide), wu_ne (by decide), wu_ne (by decide), wu_eq]
theorem nNote_off {w : ww} {s : Nat} {inn hi set : Int32} {p : Nat} (hp : p < 31 ∨ 34 < p) : nNote w s inn hi set p = w p := by
  unfold nNote; funext q
  rw [wu_ne (by omega), wu_ne (by omega), wu_ne (by omega), wu_ne (by omega)]
theorem nNote_31 {w : ww} {s : Nat} {inn hi set : Int32} {k : Nat} (hk : k ≠ 8) : nNote w s inn hi set 31 k = w 31 k := by
  unfold nNote
  rw [wu_nj hk, wu_ne (by decide), wu_ne (by decide), wu_ne (by decide)]
theorem nNote_32 {w : ww} {s : Nat} {inn hi set : Int32} {k : Nat} (hk : k ≠ s) : nNote w s inn hi set 32 k = w 32 k := by
  unfold nNote
  rw [wu_ne (by decide), wu_ne (by decide), wu_ne (by decide), wu_nj hk]
def groN (A : Int32) (b : Nat) (r : Int32) (F : List zE3) : List zE3 := (F.filter (fun e => iBit A e.2.1)).map (fun e => (e.1 ||| 2 ^ b, b, e.2.2 + r))
def grow (A : Int32) (b : Nat) (d r : Int32) (F : List zE3) : List zE3 := F ++ (2 ^ b, b, d) :: groN A b r F
set_option maxHeartbeats 4000000 in
theorem c_X7_note {s inn hi : Int32} {w : ww} {Q : Option Value → ww → Prop} (hs : vp_in s 512) (hf : vp_in (w 31 8) 512) (hQ : Q none (nNote w s.toNatClampNeg inn hi s)) : Ct mX7_note 1 [.ref 31, .int s, .int inn, .int hi] w Q := by
  refine Ct.of (by decide) (Nat.le_of_ble_eq_true rfl) (fun _ => Nat.le_of_ble_eq_true rfl) (fun G hR => ?_)
  have hE := hR.1
  refine zr_aload_n hE eX7_note_0 rfl ?_
  refine zr_getR hE eX7_note_1 fX7_9 zs31 rfl ?_
  refine zr_iload_n hE eX7_note_4 rfl ?_
  refine zr_iload_n hE eX7_note_5 rfl ?_
  refine zr_iast hE eX7_note_6 zs32 hs ?_
  refine zr_aload_n hE eX7_note_7 rfl ?_
  refine zr_getR hE eX7_note_8 fX7_15 zs31 rfl ?_
  refine zr_iload_n hE eX7_note_11 rfl ?_
  refine zr_iload_n hE eX7_note_12 rfl ?_
  refine zr_iast hE eX7_note_13 zs33 hs ?_
  refine zr_aload_n hE eX7_note_14 rfl ?_
  refine zr_getR hE eX7_note_15 fX7_18 zs31 rfl ?_
  refine zr_aload_n hE eX7_note_18 rfl ?_
  refine zr_getI hE eX7_note_19 fX7_54 zs31 rfl ?_
  refine zr_iload_n hE eX7_note_22 rfl ?_
  refine zr_iast hE eX7_note_23 zs34 (by simp only [wu_ne (show 31 ≠ 32 by decide), wu_ne (show 31 ≠ 33 by decide)]; exact hf) ?_
  refine zr_aload_n hE eX7_note_24 rfl ?_
  refine zr_dup hE eX7_note_25 rfl ?_
  refine zr_getI hE eX7_note_26 fX7_54 zs31 rfl ?_
  refine zr_iconst hE eX7_note_29 (v := 1) (by decide) ?_
  refine zr_iadd hE eX7_note_30 ?_
  refine zr_put hE eX7_note_31 gX7_54 zs31 rfl rfl rfl ?_
  refine hR.2.2.2 _ _ _ _ eX7_note_34 rfl ?_
  refine zqv hQ ?_
  simp only [nNote, wu_ne (show 31 ≠ 32 by decide), wu_ne (show 31 ≠ 33 by decide), wu_ne (show 31 ≠ 34 by decide)]

theorem take_grow {A : Int32} {b : Nat} {r : Int32} {F : List zE3} {i s inn : Nat} {hy : Int32} {X : List zE3} (hFe : F[i]? = some (s, inn, hy)) (q : iBit A inn = true) : X ++ groN A b r (F.take i) ++ [(s ||| 2 ^ b, b, hy + r)] = X ++ groN A b r (F.take (i + 1)) := by
  rw [List.append_assoc]
  congr 1
  unfold groN
  have hi : i < F.length := (List.getElem?_eq_some_iff.mp hFe).1
  have e2 : F[i] = (s, inn, hy) := by
    rw [List.getElem?_eq_getElem hi] at hFe
    exact Option.some.inj hFe
  rw [List.take_succ_eq_append_getElem hi, List.filter_append, List.map_append, e2]
  simp [q]
theorem take_grow0 {A : Int32} {b : Nat} {r : Int32} {F : List zE3} {i s inn : Nat} {hy : Int32} (hFe : F[i]? = some (s, inn, hy)) (q : iBit A inn = false) : groN A b r (F.take (i + 1)) = groN A b r (F.take i) := by
  unfold groN
  have hi : i < F.length := (List.getElem?_eq_some_iff.mp hFe).1
  have e2 : F[i] = (s, inn, hy) := by
    rw [List.getElem?_eq_getElem hi] at hFe
    exact Option.some.inj hFe
  rw [List.take_succ_eq_append_getElem hi, List.filter_append, List.map_append, e2]
  simp [q]
theorem groN_len (A : Int32) (b : Nat) (r : Int32) (F : List zE3) (i : Nat) : (groN A b r (F.take i)).length ≤ i := by
  unfold groN
  rw [List.length_map]
  refine Nat.le_trans (List.length_filter_le _ _) ?_
  rw [List.length_take]; exact Nat.min_le_left _ _
theorem groN_mem {A : Int32} {b : Nat} {r : Int32} {F : List zE3} {x : zE3} (h : x ∈ groN A b r F) : ∃ e ∈ F, iBit A e.2.1 = true ∧ x = (e.1 ||| 2 ^ b, b, e.2.2 + r) := by
  unfold groN at h
  obtain ⟨e, he, rfl⟩ := List.mem_map.mp h
  obtain ⟨h1, h2⟩ := List.mem_filter.mp he
  exact ⟨e, h1, h2, rfl⟩
theorem or_inj {s t b : Nat} (hs : s.testBit b = false) (ht : t.testBit b = false) (h : s ||| 2 ^ b = t ||| 2 ^ b) : s = t := by
  apply Nat.eq_of_testBit_eq
  intro i
  have := congrArg (fun z => Nat.testBit z i) h
  simp only [Nat.testBit_or, tb_one] at this
  by_cases q : b = i
  · subst q; rw [hs, ht]
  · simpa [q] using this
set_option maxHeartbeats 4000000 in
theorem c_X7_growBy {h b : Nat} {F : List zE3} {w : ww} {Q : Option Value → ww → Prop} (hh : zH h) (hb : b < 9) (hk : vp_in (w (h+1) b) 8) (hR0 : Rep w F) (hl : F.length ≤ 255) (hF : ∀ e ∈ F, e.1 < 512 ∧ e.2.1 < 9 ∧ e.1.testBit b = false ∧ e.1 ≠ 0) (hnd : (F.map (·.1)).Nodup)
    (hQ : ∀ u : ww, Rep u (grow (w 37 b) b (w (h+5) b) (fRi (hB w h) b) F) → (∀ p, p < 31 ∨ 34 < p → u p = w p) → (∀ k, k ≠ 8 → u 31 k = w 31 k) → (∀ s, (∀ e ∈ grow (w 37 b) b (w (h+5) b) (fRi (hB w h) b) F, e.1 ≠ s) → u 32 s = w 32 s) → Q none u) : Ct mX7_growBy 5 [.ref 31, .ref h, .int (nI b)] w Q := by
  refine Ct.of (by decide) (Nat.le_of_ble_eq_true rfl) (fun _ => Nat.le_of_ble_eq_true rfl) (fun G hR => ?_)
  have hE := hR.1
  unfold grow at hQ
  generalize hA0 : w 37 b = A at hQ
  generalize hr0 : fRi (hB w h) b = r at hQ
  have hh24 : h ≤ 24 := by rcases hh with rfl | rfl | rfl <;> omega
  have loop : ∀ (k i : Nat) (u : ww), i ≤ F.length → F.length - i = k → Rep u (F ++ (2 ^ b, b, w (h+5) b) :: groN A b r (F.take i)) → (∀ p, p < 31 ∨ 34 < p → u p = w p) → (∀ k, k ≠ 8 → u 31 k = w 31 k) → (∀ s, (∀ e ∈ F ++ (2 ^ b, b, w (h+5) b) :: groN A b r (F.take i), e.1 ≠ s) → u 32 s = w 32 s) → G 29 [some (.ref 31), some (.ref h), some (.int (nI b)), some (.int (nI F.length)), some (.int r), some (.int (nI i)), none] [] u := by
    intro k
    induction k with
    | zero =>
      intro i u hi1 hi2 hRu hof h31 h32
      have hiF : i = F.length := by omega
      subst hiF
      refine zr_iload hE eX7_growBy_29 rfl ?_
      refine zr_iload_n hE eX7_growBy_31 rfl ?_
      refine zr_kicmp_ge hE eX7_growBy_32 (tgt := 91) (by decide) (fun zc32 zd32 => ?_) (fun zc32 zd32 => absurd zc32 (by rw [nI_ltI (by omega) (by omega)]; omega))
      refine hR.2.2.2 _ _ _ _ eX7_growBy_91 rfl ?_
      rw [List.take_length] at hRu h32
      exact hQ u hRu hof h31 (fun s hs => h32 s hs)
    | succ k ih0 =>
      intro i u hi1 hi2 hRu hof h31 h32
      have ih := ih0
      have hi0 : i < F.length := by omega
      obtain ⟨⟨s, inn, hy⟩, hFe⟩ : ∃ e, F[i]? = some e := ⟨_, List.getElem?_eq_getElem hi0⟩
      have heF := List.mem_of_getElem? hFe
      have hs9 : s < 512 := (hF _ heF).1
      have hin9 : inn < 9 := (hF _ heF).2.1
      have hbit : s.testBit b = false := (hF _ heF).2.2.1
      have hs0 : s ≠ 0 := (hF _ heF).2.2.2
      have hA : u 37 b = A := by rw [hof 37 (by omega)]; exact hA0
      have hfi : u 34 i = nI s := by
        rw [hRu.2.1 i (by simp; omega), List.getD_eq_getElem?_getD, List.getElem?_append_left hi0, hFe]; rfl
      have hinn : u 33 s = nI inn := (hRu.2.2 _ (List.mem_append_left _ heF)).1
      have hhi : u 32 s = hy := (hRu.2.2 _ (List.mem_append_left _ heF)).2
      have hlen : (F ++ (2 ^ b, b, w (h+5) b) :: groN A b r (F.take i)).length < 512 := by
        have := groN_len A b r F i
        simp only [List.length_append, List.length_cons]; omega
      have hnew : ∀ x ∈ F ++ (2 ^ b, b, w (h+5) b) :: groN A b r (F.take i), x.1 ≠ s ||| 2 ^ b := by
        intro x hx hxe
        have hsb : (s ||| 2 ^ b).testBit b = true := by rw [Nat.testBit_or, tb_one]; simp
        rcases List.mem_append.mp hx with hx | hx
        · have := (hF x hx).2.2.1
          rw [hxe, hsb] at this; cases this
        · rcases List.mem_cons.mp hx with rfl | hx
          · refine hs0 (or_inj (b := b) hbit (by simp) ?_)
            simpa using hxe.symm
          · obtain ⟨y, hyt, -, rfl⟩ := groN_mem hx
            have hyF := List.mem_of_mem_take hyt
            have e1 := or_inj (hF y hyF).2.2.1 hbit hxe
            obtain ⟨j, hj, hje⟩ := List.getElem_of_mem hyt
            rw [List.length_take] at hj
            rw [List.getElem_take] at hje
            have hnd2 := List.pairwise_iff_getElem.mp hnd j i (by simp; omega) (by simp; omega) (by omega)
            simp only [List.getElem_map] at hnd2
            rw [List.getElem?_eq_getElem hi0] at hFe
            rw [hje, Option.some.inj hFe] at hnd2
            exact hnd2 e1
      refine zr_iload hE eX7_growBy_29 rfl ?_
      refine zr_iload_n hE eX7_growBy_31 rfl ?_
      refine zr_kicmp_ge hE eX7_growBy_32 (tgt := 91) (by decide) (fun zc32 zd32 => absurd ((nI_ltI (by omega) (by omega)).mpr hi0) zc32) (fun zc32 zd32 => ?_)
      refine zr_aload_n hE eX7_growBy_35 rfl ?_
      refine zr_getR hE eX7_growBy_36 fX7_18 zs31 rfl ?_
      refine zr_iload hE eX7_growBy_39 rfl ?_
      refine zr_iald hE eX7_growBy_41 zs34 (vpn (show i < 512 by omega) (by decide)) ?_
      simp only [nI_clamp (show i < 2 ^ 31 by omega), hfi]
      refine zr_istore hE eX7_growBy_42 (by decide) rfl ?_
      refine zr_aload_n hE eX7_growBy_44 rfl ?_
      refine zr_getR hE eX7_growBy_45 fX7_27 zs31 rfl ?_
      refine zr_iload_n hE eX7_growBy_48 rfl ?_
      refine zr_iald hE eX7_growBy_49 zs37 (vpn (show b < 9 by omega) (by decide)) ?_
      refine zr_aload_n hE eX7_growBy_50 rfl ?_
      simp only [nI_clamp (show b < 2 ^ 31 by omega), hA]
      refine zr_getR hE eX7_growBy_51 fX7_15 zs31 rfl ?_
      refine zr_iload hE eX7_growBy_54 rfl ?_
      refine zr_iald hE eX7_growBy_56 zs33 (vpn (show s < 512 by omega) (by decide)) ?_
      simp only [nI_clamp (show s < 2 ^ 31 by omega), hinn]
      refine zr_ishr hE eX7_growBy_57 ?_
      refine zr_iconst hE eX7_growBy_58 (v := 1) (by decide) ?_
      refine zr_iand hE eX7_growBy_59 ?_
      refine zr_iconst hE eX7_growBy_60 (v := 1) (by decide) ?_
      refine zr_icmp_ne hE eX7_growBy_61 (tgt := 85) (by decide) (fun zc61 => ?_) (fun zc61 => ?_)
      · refine zr_iincN hE eX7_growBy_85 rfl (by decide) rfl ?_
        refine zr_goto hE eX7_growBy_88 (tgt := 29) (by decide) ?_
        refine zr_mask hE [true, true, true, true, true, true, false] ?_
        have q : iBit A inn = false := decide_eq_false zc61
        have tg := take_grow0 (b := b) (r := r) hFe q
        refine ih (i + 1) _ (by omega) (by omega) (by rw [tg]; exact hRu) hof h31 (by rw [tg]; exact h32)
      · have hsb : s ||| 2 ^ b < 512 := or_lt (n := 9) hs9 (Nat.pow_lt_pow_right (by decide) hb)
        refine zr_aload_n hE eX7_growBy_64 rfl ?_
        refine zr_iload hE eX7_growBy_65 rfl ?_
        refine zr_iconst hE eX7_growBy_67 (v := 1) (by decide) ?_
        refine zr_iload_n hE eX7_growBy_68 rfl ?_
        refine zr_ishl hE eX7_growBy_69 ?_
        refine zr_ior hE eX7_growBy_70 ?_
        refine zr_iload_n hE eX7_growBy_71 rfl ?_
        refine zr_aload_n hE eX7_growBy_72 rfl ?_
        refine zr_getR hE eX7_growBy_73 fX7_9 zs31 rfl ?_
        refine zr_iload hE eX7_growBy_76 rfl ?_
        refine zr_iald hE eX7_growBy_78 zs32 (vpn (show s < 512 by omega) (by decide)) ?_
        simp only [nI_clamp (show s < 2 ^ 31 by omega), hhi]
        refine zr_iload hE eX7_growBy_79 rfl ?_
        refine zr_iadd hE eX7_growBy_81 ?_
        simp only [nb_sh1 b (by omega), nb_or]
        refine zr_callV3 hE eX7_growBy_82 lX7_81 zs31 rfl rfl (by decide) (Nat.le_of_ble_eq_true rfl) (c_X7_note (vpn hsb (by decide)) (by rw [hRu.1]; exact vpn hlen (by decide)) ?_)
        simp only [nI_clamp (show s ||| 2 ^ b < 2 ^ 31 by omega)]
        refine zr_iincN hE eX7_growBy_85 rfl (by decide) rfl ?_
        refine zr_goto hE eX7_growBy_88 (tgt := 29) (by decide) ?_
        refine zr_mask hE [true, true, true, true, true, true, false] ?_
        have q : iBit A inn = true := decide_eq_true zc61
        have tg : (F ++ (2 ^ b, b, w (h+5) b) :: groN A b r (F.take i)) ++ [(s ||| 2 ^ b, b, hy + r)] = F ++ (2 ^ b, b, w (h+5) b) :: groN A b r (F.take (i + 1)) := by
          have := take_grow (b := b) (r := r) (X := F ++ [(2 ^ b, b, w (h+5) b)]) hFe q
          simpa using this
        refine ih (i + 1) _ (by omega) (by omega) ?_ (fun p hp => ?_) (fun k hk => ?_) (fun t ht => ?_)
        · have := Rep.note (e := (s ||| 2 ^ b, b, hy + r)) hRu hlen (fun x hx => hnew x hx)
          rw [tg] at this
          exact this
        · rw [nNote_off hp]; exact hof p hp
        · rw [nNote_31 (by omega)]; exact h31 k hk
        · rw [← tg] at ht
          rw [nNote_32 (fun hx => ht (s ||| 2 ^ b, b, hy + r) (by simp) hx.symm)]
          exact h32 t (fun x hx => ht x (List.mem_append_left _ hx))
  have h2b : 2 ^ b < 512 := Nat.pow_lt_pow_right (a := 2) (m := b) (n := 9) (by decide) hb
  refine zr_aload_n hE eX7_growBy_0 rfl ?_
  refine zr_getI hE eX7_growBy_1 fX7_54 zs31 rfl ?_
  rw [hR0.1]
  refine zr_istore_n hE eX7_growBy_4 (by decide) rfl ?_
  refine zr_aload_n hE eX7_growBy_5 rfl ?_
  refine zr_iload_n hE eX7_growBy_6 rfl ?_
  refine zr_callV1 hE eX7_growBy_7 lX7_74 (hh).s0 rfl rfl (by decide) (Nat.le_of_ble_eq_true rfl) (c_X5_riseOf hh (vpn (show b < 10 by omega) (by decide)) (by rw [nI_clamp (by omega)]; exact hk) ?_)
  simp only [nI_clamp (show b < 2 ^ 31 by omega), hr0]
  refine zr_istore hE eX7_growBy_10 (by decide) rfl ?_
  refine zr_aload_n hE eX7_growBy_12 rfl ?_
  refine zr_iconst hE eX7_growBy_13 (v := 1) (by decide) ?_
  refine zr_iload_n hE eX7_growBy_14 rfl ?_
  refine zr_ishl hE eX7_growBy_15 ?_
  simp only [nb_sh1 b (by omega)]
  refine zr_iload_n hE eX7_growBy_16 rfl ?_
  refine zr_aload_n hE eX7_growBy_17 rfl ?_
  refine zr_getR hE eX7_growBy_18 fX7_78 (hh).s0 rfl ?_
  refine zr_iload_n hE eX7_growBy_21 rfl ?_
  refine zr_iald hE eX7_growBy_22 (hh).s5 (vpn (show b < 10 by omega) (by decide)) ?_
  simp only [nI_clamp (show b < 2 ^ 31 by omega)]
  refine zr_callV3 hE eX7_growBy_23 lX7_81 zs31 rfl rfl (by decide) (Nat.le_of_ble_eq_true rfl) (c_X7_note (vpn h2b (by decide)) (by rw [hR0.1]; exact vpn (show F.length < 512 by omega) (by decide)) ?_)
  simp only [nI_clamp (show 2 ^ b < 2 ^ 31 by omega)]
  refine zr_iconst hE eX7_growBy_26 (v := 0) (by decide) ?_
  refine zr_istore hE eX7_growBy_27 (by decide) rfl ?_
  refine loop F.length 0 _ (Nat.zero_le _) rfl ?_ (fun p hp => nNote_off hp) (fun k hk => nNote_31 hk) (fun t ht => ?_)
  · have := Rep.note (e := (2 ^ b, b, w (h+5) b)) hR0 (by omega) (fun x hx hxe => by
      have q := (hF x hx).2.2.1
      rw [hxe, tb_one] at q
      simp at q)
    simpa [groN] using this
  · exact nNote_32 (fun hx => ht (2 ^ b, b, w (h+5) b) (by simp) hx.symm)
