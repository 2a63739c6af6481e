/-! findAll: all nests, by growing from the outermost inward. -/
def amF (f : Nat → Bool) : Nat → Nat
  | 0 => 0
  | n + 1 => if f n then amF f n ||| 2 ^ n else amF f n
theorem amF_lt (f : Nat → Bool) : ∀ n, amF f n < 2 ^ n
  | 0 => by simp [amF]
  | n + 1 => by
    have h := amF_lt f n
    have h1 : 2 ^ n < 2 ^ (n + 1) := Nat.pow_lt_pow_right (by decide) (by omega)
    rw [amF]; split
    · exact or_lt (by omega) h1
    · omega
theorem amF_tb (f : Nat → Bool) (i : Nat) : ∀ n, (amF f n).testBit i = (decide (i < n) && f i)
  | 0 => by simp [amF]
  | n + 1 => by
    have ih := amF_tb f i n
    rw [amF]
    by_cases h : f n = true
    · rw [if_pos h, Nat.testBit_or, ih, tb_one]
      by_cases q : n = i
      · subst q; simp [h]
      · have e : decide (i < n + 1) = decide (i < n) := by congr 1; exact propext ⟨fun _ => by omega, fun _ => by omega⟩
        simp [q, e]
    · rw [if_neg h, ih]
      by_cases q : n = i
      · subst q; simp [h]
      · have e : decide (i < n + 1) = decide (i < n) := by congr 1; exact propext ⟨fun _ => by omega, fun _ => by omega⟩
        simp [e]
def aMk (lz : Nat → Nat → Bool) (c b : Nat) : Nat := amF (fun a => !decide (b = a) && lz b a) c
def FN (lz : Nat → Nat → Bool) (de ri : Nat → Int32) (c : Nat) : List Nat → List zE3
  | [] => []
  | b :: l => grow (nI (aMk lz c b)) b (de b) (ri b) (FN lz de ri c l)
theorem FN_in (lz : Nat → Nat → Bool) (de ri : Nat → Int32) (c : Nat) : ∀ (l : List Nat), ∀ e ∈ FN lz de ri c l, e.1 ≠ 0 ∧ e.2.1 ∈ l ∧ ∀ i, e.1.testBit i = true → i ∈ l
  | [], e, h => by simp [FN] at h
  | b :: l, e, h => by
    rw [FN, grow] at h
    rcases List.mem_append.mp h with h | h
    · obtain ⟨h1, h2, h3⟩ := FN_in lz de ri c l e h
      exact ⟨h1, List.mem_cons_of_mem _ h2, fun i hi => List.mem_cons_of_mem _ (h3 i hi)⟩
    · rcases List.mem_cons.mp h with rfl | h
      · refine ⟨by have := Nat.pow_pos (n := b) (show 0 < 2 by decide); show 2 ^ b ≠ 0; omega, List.mem_cons_self, fun i hi => ?_⟩
        rw [tb_one] at hi
        have := of_decide_eq_true hi
        subst this
        exact List.mem_cons_self
      · obtain ⟨x, hx, -, rfl⟩ := groN_mem h
        obtain ⟨h1, h2, h3⟩ := FN_in lz de ri c l x hx
        refine ⟨fun q => ?_, List.mem_cons_self, fun i hi => ?_⟩
        · have : (x.1 ||| 2 ^ b).testBit b = true := by rw [Nat.testBit_or, tb_one]; simp
          dsimp only at q
          rw [q] at this; simp at this
        · rw [Nat.testBit_or, tb_one, Bool.or_eq_true] at hi
          rcases hi with hi | hi
          · exact List.mem_cons_of_mem _ (h3 i hi)
          · have := of_decide_eq_true hi
            subst this
            exact List.mem_cons_self
theorem FN_nobit {lz : Nat → Nat → Bool} {de ri : Nat → Int32} {c : Nat} {l : List Nat} {b : Nat} (hb : b ∉ l) {e : zE3} (he : e ∈ FN lz de ri c l) : e.1.testBit b = false := by
  cases q : e.1.testBit b
  · rfl
  · exact absurd ((FN_in lz de ri c l e he).2.2 b q) hb
theorem FN_lt {lz : Nat → Nat → Bool} {de ri : Nat → Int32} {c : Nat} {l : List Nat} (hl : ∀ b ∈ l, b < 9) {e : zE3} (he : e ∈ FN lz de ri c l) : e.1 < 512 := by
  refine Nat.lt_pow_two_of_testBit (n := 9) e.1 (fun i hi => ?_)
  cases q : e.1.testBit i
  · rfl
  · have := hl i ((FN_in lz de ri c l e he).2.2 i q)
    omega
theorem FN_len (lz : Nat → Nat → Bool) (de ri : Nat → Int32) (c : Nat) : ∀ (l : List Nat), (FN lz de ri c l).length ≤ 2 ^ l.length - 1
  | [] => by simp [FN]
  | b :: l => by
    have ih := FN_len lz de ri c l
    rw [FN, grow, List.length_append, List.length_cons]
    have h1 : (groN (nI (aMk lz c b)) b (ri b) (FN lz de ri c l)).length ≤ (FN lz de ri c l).length := by
      unfold groN
      rw [List.length_map]
      exact List.length_filter_le _ _
    have h2 : 0 < 2 ^ l.length := Nat.pow_pos (by decide)
    rw [List.length_cons, Nat.pow_succ]
    omega
theorem FN_nodup (lz : Nat → Nat → Bool) (de ri : Nat → Int32) (c : Nat) : ∀ (l : List Nat), l.Nodup → ((FN lz de ri c l).map (·.1)).Nodup
  | [], _ => by simp [FN]
  | b :: l, hn => by
    obtain ⟨hb, hn⟩ := List.nodup_cons.mp hn
    have ih := FN_nodup lz de ri c l hn
    have hnb := fun e he => FN_nobit (lz := lz) (de := de) (ri := ri) (c := c) (e := e) hb he
    have hin := FN_in lz de ri c l
    rw [FN, grow]
    generalize FN lz de ri c l = F at ih hnb hin
    rw [List.map_append, List.map_cons]
    refine List.nodup_append.mpr ⟨ih, List.nodup_cons.mpr ⟨fun h => ?_, ?_⟩, fun x hx y hy hxy => ?_⟩
    · obtain ⟨x, hx, hxe⟩ := List.mem_map.mp h
      obtain ⟨e, he, -, rfl⟩ := groN_mem hx
      refine (hin e he).1 (or_inj (b := b) (hnb e he) (by simp) ?_)
      simpa using hxe
    · unfold groN
      rw [List.map_map]
      have hsub : ((F.filter (fun e => iBit (nI (aMk lz c b)) e.2.1)).map (·.1)).Nodup := ih.sublist ((List.filter_sublist).map _)
      unfold List.Nodup at hsub ⊢
      rw [List.pairwise_map] at hsub ⊢
      refine hsub.imp_of_mem ?_
      intro x y hx hy hne hxy
      exact hne (or_inj (b := b) (hnb x (List.mem_filter.mp hx).1) (hnb y (List.mem_filter.mp hy).1) hxy)
    · subst hxy
      obtain ⟨e, he, rfl⟩ := List.mem_map.mp hx
      have h0 := hnb e he
      rcases List.mem_cons.mp hy with q | q
      · rw [q, tb_one] at h0; simp at h0
      · obtain ⟨z, hz, hze⟩ := List.mem_map.mp q
        obtain ⟨e2, he2, -, rfl⟩ := groN_mem hz
        rw [← hze] at h0
        rw [Nat.testBit_or, tb_one] at h0
        simp at h0
theorem zdec (x : Int32) : x + Int32.ofInt (-1) = x - 1 := by rw [Int32.sub_eq_add_neg]; rfl
set_option maxHeartbeats 4000000 in
theorem fa_zero {G : zG} (hE : zE RX7 cX7_findAll 5 7 G) {h n : Nat} {u0 : ww} (hh : zH h) (hn : n ≤ 512) (hn0 : 0 < n)
    (kk : ∀ u : ww, (∀ p, p ≠ 32 → u p = u0 p) → (∀ s, s < n → u 32 s = 0) → G 53 [some (.ref 31), some (.ref h), some (.int (nI n)), none, none] [] u) :
    ∀ (k i : Nat) (u : ww), i ≤ n → n - i = k → (∀ p, p ≠ 32 → u p = u0 p) → u 31 10 = nI (n - 1) → (∀ s, s < i → u 32 s = 0) → G 32 [some (.ref 31), some (.ref h), some (.int (nI i)), none, none] [] u := by
  intro k
  induction k with
  | zero =>
    intro i u h1 h2 hof h10 hz
    have hin : i = n := by omega
    subst hin
    refine zr_iload_n hE eX7_findAll_32 rfl ?_
    refine zr_aload_n hE eX7_findAll_33 rfl ?_
    refine zr_getI hE eX7_findAll_34 fX7_51 zs31 rfl ?_
    rw [h10]
    refine zr_kicmp_gt hE eX7_findAll_37 (tgt := 53) (by decide) (fun zc37 zd37 => ?_) (fun zc37 zd37 => absurd zc37 (by rw [nI_leI (by omega) (by omega)]; omega))
    exact kk u hof (fun s hs => hz s (by omega))
  | succ k ih =>
    intro i u h1 h2 hof h10 hz
    refine zr_iload_n hE eX7_findAll_32 rfl ?_
    refine zr_aload_n hE eX7_findAll_33 rfl ?_
    refine zr_getI hE eX7_findAll_34 fX7_51 zs31 rfl ?_
    rw [h10]
    refine zr_kicmp_gt hE eX7_findAll_37 (tgt := 53) (by decide) (fun zc37 zd37 => absurd ((nI_leI (by omega) (by omega)).mpr (by omega)) zc37) (fun zc37 zd37 => ?_)
    refine zr_aload_n hE eX7_findAll_40 rfl ?_
    refine zr_getR hE eX7_findAll_41 fX7_9 zs31 rfl ?_
    refine zr_iload_n hE eX7_findAll_44 rfl ?_
    refine zr_iconst hE eX7_findAll_45 (v := 0) (by decide) ?_
    refine zr_iast hE eX7_findAll_46 zs32 (vpn (show i < 512 by omega) (by decide)) ?_
    refine zr_iincN hE eX7_findAll_47 rfl (by decide) rfl ?_
    refine zr_goto hE eX7_findAll_50 (tgt := 32) (by decide) ?_
    rw [nI_clamp (show i < 2 ^ 31 by omega)]
    refine ih (i + 1) _ (by omega) (by omega) (fun p hp => ?_) (by rw [wu_ne (by decide)]; exact h10) (fun s hs => ?_)
    · funext q; rw [wu_ne hp]; exact congrFun (hof p hp) q
    · by_cases q : s = i
      · subst q; rw [wu_eq]
      · rw [wu_nj q]; exact hz s (by omega)
set_option maxHeartbeats 4000000 in
theorem fa_around {G : zG} (hE : zE RX7 cX7_findAll 5 7 G) {h b c : Nat} {u0 : ww} {x : Int32} (hh : zH h) (hb : b < 9) (hbc : b < c) (hc : c ≤ 9) (lz : Nat → Bool) (hk : ∀ b, b < c → vp_in (u0 (h+1) b) 8) (hlz : ∀ a, a < c → ∀ u : ww, (∀ p, p ≠ 37 → u p = u0 p) → fLi (hB u h) b a (u h 8) = lz a)
    (kk : ∀ u : ww, (∀ p, p ≠ 37 → u p = u0 p ∨ p = 37) → (∀ p, p ≠ 37 → u p = u0 p) → (∀ y, y ≠ b → u 37 y = u0 37 y) → u 37 b = nI (amF (fun a => !decide (b = a) && lz a) c) → G 133 [some (.ref 31), some (.ref h), some (.int x), some (.int (nI b)), some (.int (nI c))] [] u) :
    ∀ (k a : Nat) (u : ww), a ≤ c → c - a = k → (∀ p, p ≠ 37 → u p = u0 p) → (∀ y, y ≠ b → u 37 y = u0 37 y) → u 31 9 = nI c → u 37 b = nI (amF (fun a => !decide (b = a) && lz a) a) → G 85 [some (.ref 31), some (.ref h), some (.int x), some (.int (nI b)), some (.int (nI a))] [] u := by
  have hh24 : h ≤ 24 := by rcases hh with rfl | rfl | rfl <;> omega
  intro k
  induction k with
  | zero =>
    intro a u h1 h2 hof hoy h9 ham
    have hac : a = c := by omega
    subst hac
    refine zr_iload hE eX7_findAll_85 rfl ?_
    refine zr_aload_n hE eX7_findAll_87 rfl ?_
    refine zr_getI hE eX7_findAll_88 fX7_48 zs31 rfl ?_
    rw [h9]
    refine zr_kicmp_ge hE eX7_findAll_91 (tgt := 133) (by decide) (fun zc91 zd91 => ?_) (fun zc91 zd91 => absurd zc91 (by rw [nI_ltI (by omega) (by omega)]; omega))
    exact kk u (fun p hp => Or.inl (hof p hp)) hof hoy ham
  | succ k ih0 =>
    intro a u h1 h2 hof hoy h9 ham
    have ih : ∀ (a : Nat) (u : ww), a ≤ c → c - a = k → (∀ p, p ≠ 37 → u p = u0 p) → (∀ y, y ≠ b → u 37 y = u0 37 y) → u 31 9 = nI c → u 37 b = nI (amF (fun a => !decide (b = a) && lz a) a) → G 85 [some (.ref 31), some (.ref h), some (.int x), some (.int (nI b)), some (.int (nI a))] [] u := ih0
    refine zr_iload hE eX7_findAll_85 rfl ?_
    refine zr_aload_n hE eX7_findAll_87 rfl ?_
    refine zr_getI hE eX7_findAll_88 fX7_48 zs31 rfl ?_
    rw [h9]
    refine zr_kicmp_ge hE eX7_findAll_91 (tgt := 133) (by decide) (fun zc91 zd91 => absurd ((nI_ltI (by omega) (by omega)).mpr (by omega)) zc91) (fun zc91 zd91 => ?_)
    refine zr_iload hE eX7_findAll_94 rfl ?_
    refine zr_iload_n hE eX7_findAll_96 rfl ?_
    refine zr_icmp_eq hE eX7_findAll_97 (tgt := 127) (by decide) (fun zc97 => ?_) (fun zc97 => ?_)
    · refine zr_iincN hE eX7_findAll_127 rfl (by decide) rfl ?_
      refine zr_goto hE eX7_findAll_130 (tgt := 85) (by decide) ?_
      have q : b = a := ((nI_eq (by omega) (by omega)).mp zc97).symm
      refine ih (a + 1) u (by omega) (by omega) hof hoy h9 (by rw [ham, amF, if_neg (by simp [q])])
    · refine zr_aload_n hE eX7_findAll_100 rfl ?_
      refine zr_iload_n hE eX7_findAll_101 rfl ?_
      refine zr_iload hE eX7_findAll_102 rfl ?_
      refine zr_aload_n hE eX7_findAll_104 rfl ?_
      refine zr_getI hE eX7_findAll_105 fX7_63 (hh).s0 rfl ?_
      refine zr_callV3 hE eX7_findAll_108 lX7_66 (hh).s0 rfl rfl (by decide) (Nat.le_of_ble_eq_true rfl) (c_X5_isIn hh (vpn (show b < 10 by omega) (by decide)) (vpn (show a < 10 by omega) (by decide)) (by rw [nI_clamp (by omega), hof (h+1) (by omega)]; exact hk _ (by omega)) (by rw [nI_clamp (by omega), hof (h+1) (by omega)]; exact hk _ (by omega)) ?_)
      simp only [nI_clamp (show b < 2 ^ 31 by omega), nI_clamp (show a < 2 ^ 31 by omega)]
      rw [hlz a (by omega) u hof]
      refine zr_beq hE eX7_findAll_111 (tgt := 127) (by decide) (fun zc111 => ?_) (fun zc111 => ?_)
      · refine zr_iincN hE eX7_findAll_127 rfl (by decide) rfl ?_
        refine zr_goto hE eX7_findAll_130 (tgt := 85) (by decide) ?_
        refine ih (a + 1) u (by omega) (by omega) hof hoy h9 (by rw [ham, amF, if_neg (by simp [zc111])])
      · refine zr_aload_n hE eX7_findAll_114 rfl ?_
        refine zr_getR hE eX7_findAll_115 fX7_27 zs31 rfl ?_
        refine zr_iload_n hE eX7_findAll_118 rfl ?_
        refine zr_dup2 hE eX7_findAll_119 rfl rfl ?_
        refine zr_iald hE eX7_findAll_120 zs37 (vpn (show b < 9 by omega) (by decide)) ?_
        simp only [nI_clamp (show b < 2 ^ 31 by omega), ham]
        refine zr_iconst hE eX7_findAll_121 (v := 1) (by decide) ?_
        refine zr_iload hE eX7_findAll_122 rfl ?_
        refine zr_ishl hE eX7_findAll_124 ?_
        refine zr_ior hE eX7_findAll_125 ?_
        simp only [nb_sh1 a (by omega), nb_or]
        refine zr_iast hE eX7_findAll_126 zs37 (vpn (show b < 9 by omega) (by decide)) ?_
        refine zr_iincN hE eX7_findAll_127 rfl (by decide) rfl ?_
        refine zr_goto hE eX7_findAll_130 (tgt := 85) (by decide) ?_
        have q : ¬ b = a := fun e => zc97 (by rw [e])
        refine ih (a + 1) _ (by omega) (by omega) (fun p hp => ?_) (fun y hy => ?_) (by rw [wu_ne (by decide)]; exact h9) ?_
        · funext z; rw [wu_ne hp]; exact congrFun (hof p hp) z
        · rw [nI_clamp (by omega), wu_nj hy]; exact hoy y hy
        · rw [nI_clamp (by omega), wu_eq, amF, if_pos (by simp [q, zc111])]
theorem mn9 : ∀ {c : Nat}, c ≤ 9 → mn (nI c) 9 = nI c := by
  intro c hc
  rcases (show c = 0 ∨ c = 1 ∨ c = 2 ∨ c = 3 ∨ c = 4 ∨ c = 5 ∨ c = 6 ∨ c = 7 ∨ c = 8 ∨ c = 9 by omega) with rfl | rfl | rfl | rfl | rfl | rfl | rfl | rfl | rfl | rfl <;> decide +kernel
def fFN (B : zBv) (v : Int32) (c : Nat) (l : List Nat) : List zE3 := FN (fun a b => fLi B a b v) (B 4) (fRi B) c l
set_option maxHeartbeats 4000000 in
theorem c_X7_findAll {h c : Nat} {w : ww} {Q : Option Value → ww → Prop} (hh : zH h) (hc : c ≤ 9) (hcw : w h 7 = nI c) (hk : ∀ b, b < c → vp_in (w (h+1) b) 8)
    (hQ : ∀ u : ww, (∀ p, p < 31 ∨ 37 < p → p ≠ h+6 → u p = w p) → u 31 9 = nI c → u 31 10 = nI (2 ^ c - 1) → Rep u (fFN (hB w h) (w h 8) c (ordO (oB (hB w h)) c)) → (∀ s, s < 2 ^ c → (∀ e ∈ fFN (hB w h) (w h 8) c (ordO (oB (hB w h)) c), e.1 ≠ s) → u 32 s = 0) → (∀ i, i < c → u (h+6) i = nI ((ordO (oB (hB w h)) c).getD i 0)) →
      (∀ i, i < c → u 37 ((ordO (oB (hB w h)) c).getD i 0) = nI (aMk (fun a b => fLi (hB w h) a b (w h 8)) c ((ordO (oB (hB w h)) c).getD i 0))) → Q none u) : Ct mX7_findAll 7 [.ref 31, .ref h] w Q := by
  refine Ct.of (by decide) (Nat.le_of_ble_eq_true rfl) (fun _ => Nat.le_of_ble_eq_true rfl) (fun G hR => ?_)
  have hE := hR.1
  have hh24 : h ≤ 24 := by rcases hh with rfl | rfl | rfl <;> omega
  have hpc : 2 ^ c ≤ 2 ^ 9 := Nat.pow_le_pow_right (by decide) hc
  have hpc : 2 ^ c ≤ 512 := hpc
  have hpc0 : 0 < 2 ^ c := Nat.pow_pos (by decide)
  have hlen0 := ordO_len (oB (hB w h)) c
  have hnd0 := ordO_nodup (oB (hB w h)) c
  have hlm0 : ∀ y ∈ ordO (oB (hB w h)) c, y < c := fun y hy => (ordO_mem _ _ _).mp hy
  generalize hl0 : ordO (oB (hB w h)) c = l at hQ hlen0 hnd0 hlm0
  have hlen := hlen0
  have hnd := hnd0
  have hlm := hlm0
  have loop : ∀ (m : Nat) (u : ww), m ≤ c → (∀ p, p < 31 ∨ 37 < p → p ≠ h+6 → u p = w p) → u 31 9 = nI c → u 31 10 = nI (2 ^ c - 1) → Rep u (fFN (hB w h) (w h 8) c (l.drop m)) → (∀ s, s < 2 ^ c → (∀ e ∈ fFN (hB w h) (w h 8) c (l.drop m), e.1 ≠ s) → u 32 s = 0) → (∀ i, i < c → u (h+6) i = nI (l.getD i 0)) → (∀ i, m ≤ i → i < c → u 37 (l.getD i 0) = nI (aMk (fun a b => fLi (hB w h) a b (w h 8)) c (l.getD i 0))) → G 64 [some (.ref 31), some (.ref h), some (.int (nI m - 1)), none, none] [] u := by
    intro m
    induction m with
    | zero =>
      intro u hm hof h9 h10 hRu hz hord har
      refine zr_iload_n hE eX7_findAll_64 rfl ?_
      refine zr_kif_lt hE eX7_findAll_65 (tgt := 145) (by decide) (fun zc65 zd65 => ?_) (fun zc65 zd65 => absurd zc65 (by decide))
      refine hR.2.2.2 _ _ _ _ eX7_findAll_145 rfl ?_
      exact hQ u hof h9 h10 (by simpa using hRu) (fun s hs1 hs2 => hz s hs1 (by simpa using hs2)) hord (fun i hi => har i (Nat.zero_le _) hi)
    | succ m ih =>
      intro u hm hof h9 h10 hRu hz hord har
      have hil : m < l.length := by omega
      obtain ⟨b, hbe⟩ : ∃ b, l.getD m 0 = b := ⟨_, rfl⟩
      have hbm : b ∈ l := by
        rw [← hbe, List.getD_eq_getElem?_getD, List.getElem?_eq_getElem hil]
        exact List.getElem_mem _
      have hbc : b < c := hlm b hbm
      have hbl : b ∉ l.drop (m + 1) := by
        have h1 : (l.drop m).Nodup := hnd.sublist (List.drop_sublist m l)
        rw [drop_cons hil, hbe] at h1
        exact (List.nodup_cons.mp h1).1
      have hndd : (l.drop (m + 1)).Nodup := hnd.sublist (List.drop_sublist _ l)
      have hl9 : ∀ y ∈ l.drop (m + 1), y < 9 := fun y hy => by have := hlm y (List.mem_of_mem_drop hy); omega
      have hflen : (fFN (hB w h) (w h 8) c (l.drop (m + 1))).length ≤ 2 ^ 8 - 1 := by
        have h1 := FN_len (fun a b => fLi (hB w h) a b (w h 8)) ((hB w h) 4) (fRi (hB w h)) c (l.drop (m + 1))
        rw [List.length_drop, hlen] at h1
        have h2 : 2 ^ (c - (m + 1)) ≤ 2 ^ 8 := Nat.pow_le_pow_right (by decide) (by omega)
        unfold fFN
        omega
      have kk2 : ∀ u2 : ww, (∀ p, p ≠ 37 → u2 p = wu u 37 b 0 p) → (∀ y, y ≠ b → u2 37 y = wu u 37 b 0 37 y) → u2 37 b = nI (amF (fun a => !decide (b = a) && fLi (hB w h) b a (w h 8)) c) → G 133 [some (.ref 31), some (.ref h), some (.int (nI m)), some (.int (nI b)), some (.int (nI c))] [] u2 := by
        intro u2 hof2 hoy2 ham2
        have e2 : ∀ p, p < 31 → p ≠ h + 6 → u2 p = w p := fun p hp hp2 => by
          rw [hof2 p (by omega)]
          funext z
          rw [wu_ne (by omega)]
          exact congrFun (hof p (by omega) hp2) z
        have hR2 : Rep u2 (fFN (hB w h) (w h 8) c (l.drop (m + 1))) := by
          obtain ⟨r1, r2, r3⟩ := hRu
          refine ⟨by rw [hof2 31 (by decide), wu_ne (by decide)]; exact r1, fun i hi => by rw [hof2 34 (by decide), wu_ne (by decide)]; exact r2 i hi, fun e he => ⟨by rw [hof2 33 (by decide), wu_ne (by decide)]; exact (r3 e he).1, by rw [hof2 32 (by decide), wu_ne (by decide)]; exact (r3 e he).2⟩⟩
        refine zr_aload_n hE eX7_findAll_133 rfl ?_
        refine zr_aload_n hE eX7_findAll_134 rfl ?_
        refine zr_iload_n hE eX7_findAll_135 rfl ?_
        refine zr_callV2 hE eX7_findAll_136 lX7_70 zs31 rfl rfl (by decide) (Nat.le_of_ble_eq_true rfl) (c_X7_growBy (F := fFN (hB w h) (w h 8) c (l.drop (m + 1))) hh (show b < 9 by omega) (by rw [e2 (h + 1) (by omega) (by omega)]; exact hk b (by omega)) hR2 (by omega) (fun e he => ⟨FN_lt hl9 he, hl9 _ (FN_in _ _ _ _ _ e he).2.1, FN_nobit hbl he, (FN_in _ _ _ _ _ e he).1⟩) (FN_nodup _ _ _ _ _ hndd) (fun u3 hR3 hof3 h313 h323 => ?_))
        refine zr_iinc hE eX7_findAll_139 rfl rfl (by decide) rfl ?_
        refine zr_goto hE eX7_findAll_142 (tgt := 64) (by decide) ?_
        refine zr_mask hE [true, true, true, false, false] ?_
        rw [zdec]
        have eA : u2 37 b = nI (aMk (fun a b => fLi (hB w h) a b (w h 8)) c b) := ham2
        have ed : u2 (h + 5) b = (hB w h) 4 b := by rw [e2 (h + 5) (by omega) (by omega)]; rfl
        have er : fRi (hB u2 h) b = fRi (hB w h) b := fRi_cong (fun k hk => by unfold hB; rw [e2 (h + 1 + k) (by omega) (by omega)])
        rw [eA, ed, er] at hR3 h323
        have eF : fFN (hB w h) (w h 8) c (l.drop m) = grow (nI (aMk (fun a b => fLi (hB w h) a b (w h 8)) c b)) b ((hB w h) 4 b) (fRi (hB w h) b) (fFN (hB w h) (w h 8) c (l.drop (m + 1))) := by
          rw [drop_cons (by omega), hbe]; rfl
        refine ih u3 (by omega) (fun p hp hp2 => ?_) (by rw [h313 9 (by decide), hof2 31 (by decide), wu_ne (by decide)]; exact h9) (by rw [h313 10 (by decide), hof2 31 (by decide), wu_ne (by decide)]; exact h10) (by rw [eF]; exact hR3) (fun s hs1 hs2 => ?_) (fun i hi => ?_) (fun i h1 h2 => ?_)
        · rw [hof3 p (by omega), hof2 p (by omega)]
          funext z
          rw [wu_ne (by omega)]
          exact congrFun (hof p hp hp2) z
        · rw [eF] at hs2
          rw [h323 s hs2, hof2 32 (by decide), wu_ne (by decide)]
          refine hz s hs1 (fun e he => hs2 e ?_)
          unfold grow
          exact List.mem_append_left _ he
        · rw [hof3 (h + 6) (by omega), hof2 (h + 6) (by omega), wu_ne (by omega)]
          exact hord i hi
        · rw [hof3 37 (by omega)]
          by_cases q : i = m
          · subst q; rw [hbe]; exact ham2
          · have hi : l.getD i 0 ≠ b := fun e => by
              have hil : i < l.length := by omega
              have hml : m < l.length := by omega
              have h3 := List.pairwise_iff_getElem.mp hnd m i hml hil (by omega)
              rw [List.getD_eq_getElem?_getD, List.getElem?_eq_getElem hil] at e
              rw [List.getD_eq_getElem?_getD, List.getElem?_eq_getElem hml] at hbe
              exact h3 (by simpa using hbe.trans e.symm)
            rw [hoy2 _ hi, wu_nj hi]
            exact har i (by omega) h2
      refine zr_iload_n hE eX7_findAll_64 rfl ?_
      rw [nI_pred]
      refine zr_kif_lt hE eX7_findAll_65 (tgt := 145) (by decide) (fun zc65 zd65 => absurd (nI_pos' (show m < 2 ^ 31 by omega)) zc65) (fun zc65 zd65 => ?_)
      refine zr_aload_n hE eX7_findAll_68 rfl ?_
      refine zr_getR hE eX7_findAll_69 fX7_60 (hh).s0 rfl ?_
      refine zr_iload_n hE eX7_findAll_72 rfl ?_
      refine zr_iald hE eX7_findAll_73 (hh).s6 (vpn (show m < 10 by omega) (by decide)) ?_
      simp only [nI_clamp (show m < 2 ^ 31 by omega), hord m (by omega), hbe]
      refine zr_istore_n hE eX7_findAll_74 (by decide) rfl ?_
      refine zr_aload_n hE eX7_findAll_75 rfl ?_
      refine zr_getR hE eX7_findAll_76 fX7_27 zs31 rfl ?_
      refine zr_iload_n hE eX7_findAll_79 rfl ?_
      refine zr_iconst hE eX7_findAll_80 (v := 0) (by decide) ?_
      refine zr_iast hE eX7_findAll_81 zs37 (vpn (show b < 9 by omega) (by decide)) ?_
      simp only [nI_clamp (show b < 2 ^ 31 by omega)]
      refine zr_iconst hE eX7_findAll_82 (v := 0) (by decide) ?_
      refine zr_istore hE eX7_findAll_83 (by decide) rfl ?_
      refine fa_around hE hh (show b < 9 by omega) (show b < c by omega) hc (fun a => fLi (hB w h) b a (w h 8)) (u0 := wu u 37 b 0) (fun y hy => by rw [wu_ne (by omega), hof _ (by omega) (by omega)]; exact hk y hy) (fun a ha u2 hu2 => ?_) (fun u2 _ hof2 hoy2 ham2 => ?_) c 0 _ (Nat.zero_le _) rfl (fun _ _ => rfl) (fun _ _ => rfl) (by rw [wu_ne (by decide)]; exact h9) (by rw [wu_eq]; rfl)
      · have e : ∀ p, p < 31 → p ≠ h + 6 → u2 p = w p := fun p hp hp2 => by
          rw [hu2 p (by omega)]
          funext z
          rw [wu_ne (by omega)]
          exact congrFun (hof p (by omega) hp2) z
        rw [e h (by omega) (by omega)]
        exact fLi_cong (fun k hk => by unfold hB; rw [e (h + 1 + k) (by omega) (by omega)]) (fun k hk => by unfold hB; rw [e (h + 1 + k) (by omega) (by omega)])
      · exact kk2 u2 hof2 hoy2 ham2
  have kk3 : ∀ u1 : ww, (∀ p, p ≠ 32 → u1 p = wu (wu (wu w 31 9 (nI c)) 31 10 (nI (2 ^ c - 1))) 31 8 0 p) → (∀ s, s < 2 ^ c → u1 32 s = 0) → G 53 [some (.ref 31), some (.ref h), some (.int (nI (2 ^ c))), none, none] [] u1 := by
    intro u1 hofZ hzZ
    have hof1 : ∀ p, p < 31 ∨ 37 < p → u1 p = w p := fun p hp => by
      rw [hofZ p (by omega)]
      funext z
      rw [wu_ne (by omega), wu_ne (by omega), wu_ne (by omega)]
    refine zr_aload_n hE eX7_findAll_53 rfl ?_
    refine zr_callV0 hE eX7_findAll_54 lX7_57 (hh).s0 rfl rfl (by decide) (Nat.le_of_ble_eq_true rfl) (c_X5_arrange hh (c := c) (by omega) (by rw [hof1 h (by omega)]; exact hcw) (fun b hb => by rw [hof1 (h+1) (by omega)]; exact hk b hb) (fun u2 hofA hordA => ?_))
    refine zr_aload_n hE eX7_findAll_57 rfl ?_
    refine zr_getI hE eX7_findAll_58 fX7_48 zs31 rfl ?_
    rw [show u2 31 9 = nI c by rw [hofA 31 (by omega), hofZ 31 (by decide), wu_nj (by decide), wu_nj (by decide), wu_eq]]
    refine zr_iconst hE eX7_findAll_61 (v := 1) (by decide) ?_
    refine zr_isub hE eX7_findAll_62 ?_
    refine zr_istore_n hE eX7_findAll_63 (by decide) rfl ?_
    have eo : oB (hB u1 h) = oB (hB w h) := by
      funext b
      unfold oB fOut hB
      rw [hof1 (h + 1 + 3) (by omega), hof1 (h + 1 + 0) (by omega), hof1 (h + 1 + 1) (by omega), hof1 (h + 1 + 2) (by omega)]
    rw [eo, hl0] at hordA
    have hF0 : fFN (hB w h) (w h 8) c (l.drop c) = [] := by rw [List.drop_eq_nil_of_le (by omega)]; rfl
    refine loop c u2 (Nat.le_refl _) (fun p hp hp2 => ?_) (by rw [hofA 31 (by omega), hofZ 31 (by decide), wu_nj (by decide), wu_nj (by decide), wu_eq]) (by rw [hofA 31 (by omega), hofZ 31 (by decide), wu_nj (by decide), wu_eq]) ?_ (fun s hs _ => ?_) hordA (fun i h1 h2 => by omega)
    · rw [hofA p (by omega)]
      exact hof1 p (by omega)
    · rw [hF0]
      exact ⟨by rw [hofA 31 (by omega), hofZ 31 (by decide), wu_eq]; rfl, fun i hi => by simp at hi, fun e he => by simp at he⟩
    · rw [hofA 32 (by omega)]; exact hzZ s hs
  refine zr_aload_n hE eX7_findAll_0 rfl ?_
  refine zr_aload_n hE eX7_findAll_1 rfl ?_
  refine zr_getI hE eX7_findAll_2 fX7_36 (hh).s0 rfl ?_
  refine zr_bipush hE eX7_findAll_5 (v := 9) (by decide) ?_
  rw [hcw]
  refine zr_mmin hE eX7_findAll_7 lmX7_42 (by decide) (Nat.le_of_ble_eq_true rfl) ?_
  rw [show mn (nI c) 9 = nI c from mn9 hc]
  refine zr_put hE eX7_findAll_10 gX7_48 zs31 rfl rfl rfl ?_
  refine zr_aload_n hE eX7_findAll_13 rfl ?_
  refine zr_iconst hE eX7_findAll_14 (v := 1) (by decide) ?_
  refine zr_aload_n hE eX7_findAll_15 rfl ?_
  refine zr_getI hE eX7_findAll_16 fX7_48 zs31 rfl ?_
  simp only [wu_eq]
  refine zr_ishl hE eX7_findAll_19 ?_
  refine zr_iconst hE eX7_findAll_20 (v := 1) (by decide) ?_
  refine zr_isub hE eX7_findAll_21 ?_
  rw [nb_all c (by omega)]
  refine zr_put hE eX7_findAll_22 gX7_51 zs31 rfl rfl rfl ?_
  refine zr_aload_n hE eX7_findAll_25 rfl ?_
  refine zr_iconst hE eX7_findAll_26 (v := 0) (by decide) ?_
  refine zr_put hE eX7_findAll_27 gX7_54 zs31 rfl rfl rfl ?_
  refine zr_iconst hE eX7_findAll_30 (v := 0) (by decide) ?_
  refine zr_istore_n hE eX7_findAll_31 (by decide) rfl ?_
  refine fa_zero hE hh (n := 2 ^ c) (u0 := wu (wu (wu w 31 9 (nI c)) 31 10 (nI (2 ^ c - 1))) 31 8 0) hpc hpc0 (fun u1 hofZ hzZ => ?_) (2 ^ c) 0 _ (Nat.zero_le _) rfl (fun _ _ => rfl) (by rw [wu_nj (by decide), wu_eq]) (fun s hs => by omega)
  exact kk3 u1 hofZ hzZ
