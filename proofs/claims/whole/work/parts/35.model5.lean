/-! The reference: leastOf and what is asked of it. -/
def lwb (s : Nat) : Nat := s ^^^ (s &&& (s - 1))
theorem lowN_lwb : ∀ s, s < 512 → s ≠ 0 → lowN s = lwb s := by decide +kernel
theorem sb_ok0 : ∀ s, s < 512 → s ≠ 0 → ∀ p ∈ subL (s ^^^ lwb s) 1024 (s ^^^ lwb s), ((p ||| lwb s) - 1) &&& s = p ∧ (p ||| lwb s) &&& lwb s ≠ 0 ∧ p &&& lwb s = 0 ∧ nDif s (p ||| lwb s) = (s ^^^ lwb s) ^^^ p ∧ (p ≠ 0 → (p - 1) &&& s = ((p - 1) &&& (s ^^^ lwb s)) ||| lwb s) ∧ p ||| lwb s ≤ s ∧ p ||| lwb s ≠ 0 ∧ (s ^^^ lwb s) ^^^ p < s := by decide +kernel
set_option maxHeartbeats 4000000 in
theorem ml_in {G : zG} {w u0 : ww} {Q : Option Value → ww → Prop} {s lb : Nat} {how hi r : Int32} {C Lf : Nat → Int32} (hR : zR RX12 cX12_leastOf 7 9 (some .int) Q G) (hs : s < 512) (h0 : s ≠ 0) (hlb : lb = lwb s) (hlb9 : lwb s < 512) (hC : ∀ p, 0 < p → p ≤ s → u0 69 p = C p) (hL : ∀ t, t < s → u0 68 t = Lf t)
    (kk : ∀ u : ww, (∀ q, q ≠ 68 → u q = u0 q) → (∀ t, t ≠ s → u 68 t = u0 68 t) → u 68 s = r → G 139 [some (.ref 57), some (.int how), some (.int hi), some (.int (nI s)), some (.int (nI (lwb s))), some (.int (nI 0)), none] [] u) :
    ∀ (f p : Nat) (b : Int32) (u : ww), p < f → (∀ x ∈ subL (s ^^^ lwb s) f p, x ∈ subL (s ^^^ lwb s) 1024 (s ^^^ lwb s)) → (∀ q, q ≠ 68 → u q = u0 q) → (∀ t, t ≠ s → u 68 t = u0 68 t) → u 68 s = b → bstF C Lf (lwb s) (s ^^^ lwb s) (subL (s ^^^ lwb s) f p) b = r → G 63 [some (.ref 57), some (.int how), some (.int hi), some (.int (nI s)), some (.int (nI (lwb s))), some (.int (nI (p ||| lwb s))), none] [] u := by
  have hE := hR.1
  intro f
  induction f with
  | zero => intro p b u h1; omega
  | succ f ih0 =>
    intro p b u h1 hmem hf ho hb hr
    have ih : ∀ (p2 : Nat) (b2 : Int32) (u2 : ww), p2 < f → (∀ x ∈ subL (s ^^^ lwb s) f p2, x ∈ subL (s ^^^ lwb s) 1024 (s ^^^ lwb s)) → (∀ q, q ≠ 68 → u2 q = u0 q) → (∀ t, t ≠ s → u2 68 t = u0 68 t) → u2 68 s = b2 → bstF C Lf (lwb s) (s ^^^ lwb s) (subL (s ^^^ lwb s) f p2) b2 = r → G 63 [some (.ref 57), some (.int how), some (.int hi), some (.int (nI s)), some (.int (nI (lwb s))), some (.int (nI (p2 ||| lwb s))), none] [] u2 := ih0
    have sb := sb_ok0 s hs h0 p (hmem p (by rw [subL]; exact List.mem_cons_self))
    have sb1 := sb.2.2.2.2.2.1
    have sb2 := sb.2.2.2.2.2.2.1
    have sb3 := sb.2.2.2.2.2.2.2
    have hp9 : p ≤ p ||| lwb s := Nat.left_le_or
    have xC : u 69 (p ||| lwb s) = C (p ||| lwb s) := by rw [hf 69 (by decide)]; exact hC _ (by omega) sb1
    have half : ∀ (u2 : ww), (∀ q, q ≠ 68 → u2 q = u0 q) → (∀ t, t ≠ s → u2 68 t = u0 68 t) → u2 68 s = mn b (C (p ||| lwb s) + Lf ((s ^^^ lwb s) ^^^ p)) → G 128 [some (.ref 57), some (.int how), some (.int hi), some (.int (nI s)), some (.int (nI (lwb s))), some (.int (nI (p ||| lwb s))), none] [] u2 := by
      intro u2 hf2 ho2 hb2
      obtain ⟨m, hm⟩ : ∃ m, p ||| lwb s = m + 1 := ⟨(p ||| lwb s) - 1, by omega⟩
      rw [hm]
      refine zr_iload hE eX12_leastOf_128 rfl ?_
      refine zr_iconst hE eX12_leastOf_130 (v := 1) (by decide) ?_
      refine zr_isub hE eX12_leastOf_131 ?_
      simp only [nI_pred]
      refine zr_iload_n hE eX12_leastOf_132 rfl ?_
      refine zr_iand hE eX12_leastOf_133 ?_
      rw [nb_and, show m &&& s = p by rw [← sb.1, hm]; rfl]
      refine zr_istore hE eX12_leastOf_134 (by decide) rfl ?_
      refine zr_goto hE eX12_leastOf_136 (tgt := 63) (by decide) ?_
      by_cases hp0 : p = 0
      · subst hp0
        have hr2 : mn b (C (0 ||| lwb s) + Lf ((s ^^^ lwb s) ^^^ 0)) = r := by rw [subL, if_pos rfl, bstF, bstF] at hr; exact hr
        refine zr_iload hE eX12_leastOf_63 rfl ?_
        refine zr_kif_le hE eX12_leastOf_65 (tgt := 139) (by decide) (fun zc65 zd65 => ?_) (fun zc65 zd65 => absurd zc65 (by decide))
        exact kk u2 hf2 ho2 (by rw [hb2]; exact hr2)
      · refine zr_iload hE eX12_leastOf_63 rfl ?_
        refine zr_kif_le hE eX12_leastOf_65 (tgt := 139) (by decide) (fun zc65 zd65 => absurd ((nI_ltI (show 0 < 2 ^ 31 by decide) (by omega)).mpr (by omega)) zc65) (fun zc65 zd65 => ?_)
        refine zr_iload hE eX12_leastOf_68 rfl ?_
        refine zr_iload hE eX12_leastOf_70 rfl ?_
        refine zr_iand hE eX12_leastOf_72 ?_
        rw [nb_and]
        refine zr_if_ne hE eX12_leastOf_73 (tgt := 79) (by decide) (fun zc73 => absurd ((congrArg nI sb.2.2.1).trans rfl) zc73) (fun zc73 => ?_)
        refine zr_goto hE eX12_leastOf_76 (tgt := 128) (by decide) ?_
        obtain ⟨m2, rfl⟩ : ∃ m2, p = m2 + 1 := ⟨p - 1, by omega⟩
        have xm2 : m2 &&& s = (m2 &&& (s ^^^ lwb s)) ||| lwb s := sb.2.2.2.2.1 (by omega)
        rw [subL, if_neg hp0] at hmem hr
        have hmem2 : ∀ x ∈ subL (s ^^^ lwb s) f (m2 &&& (s ^^^ lwb s)), x ∈ subL (s ^^^ lwb s) 1024 (s ^^^ lwb s) := fun x hx => hmem x (List.mem_cons_of_mem _ hx)
        have hr2 : bstF C Lf (lwb s) (s ^^^ lwb s) (subL (s ^^^ lwb s) f (m2 &&& (s ^^^ lwb s))) (mn b (C ((m2 + 1) ||| lwb s) + Lf ((s ^^^ lwb s) ^^^ (m2 + 1)))) = r := by rw [bstF] at hr; exact hr
        refine zr_iload hE eX12_leastOf_128 rfl ?_
        refine zr_iconst hE eX12_leastOf_130 (v := 1) (by decide) ?_
        refine zr_isub hE eX12_leastOf_131 ?_
        simp only [nI_pred]
        refine zr_iload_n hE eX12_leastOf_132 rfl ?_
        refine zr_iand hE eX12_leastOf_133 ?_
        rw [nb_and, xm2]
        refine zr_istore hE eX12_leastOf_134 (by decide) rfl ?_
        refine zr_goto hE eX12_leastOf_136 (tgt := 63) (by decide) ?_
        exact ih _ _ u2 (by have := Nat.and_le_left (n := m2) (m := s ^^^ lwb s); omega) hmem2 hf2 ho2 hb2 hr2
    refine zr_iload hE eX12_leastOf_63 rfl ?_
    refine zr_kif_le hE eX12_leastOf_65 (tgt := 139) (by decide) (fun zc65 zd65 => absurd ((nI_ltI (show 0 < 2 ^ 31 by decide) (by omega)).mpr (by omega)) zc65) (fun zc65 zd65 => ?_)
    refine zr_iload hE eX12_leastOf_68 rfl ?_
    refine zr_iload hE eX12_leastOf_70 rfl ?_
    refine zr_iand hE eX12_leastOf_72 ?_
    rw [nb_and]
    refine zr_if_ne hE eX12_leastOf_73 (tgt := 79) (by decide) (fun zc73 => ?_) (fun zc73 => absurd ((nI_0i (by have := Nat.and_le_right (n := p ||| lwb s) (m := lwb s); omega)).mp zc73) sb.2.1)
    refine zr_aload_n hE eX12_leastOf_79 rfl ?_
    refine zr_getR hE eX12_leastOf_80 fX12_43 zs57 rfl ?_
    refine zr_iload hE eX12_leastOf_83 rfl ?_
    refine zr_ialdv hE eX12_leastOf_85 zs69 (vpn (show p ||| lwb s < 512 by omega) (by decide)) ((congrArg (u 69) (nI_clamp (by omega))).trans xC) ?_
    refine zr_aload_n hE eX12_leastOf_86 rfl ?_
    refine zr_getR hE eX12_leastOf_87 fX12_40 zs57 rfl ?_
    refine zr_iload_n hE eX12_leastOf_90 rfl ?_
    refine zr_iload hE eX12_leastOf_91 rfl ?_
    refine zr_iconst hE eX12_leastOf_93 (v := -1) (by decide) ?_
    refine zr_ixor hE eX12_leastOf_94 ?_
    refine zr_iand hE eX12_leastOf_95 ?_
    show G _ _ (.int (nI s &&& (nI (p ||| lwb s) ^^^ (-1))) :: _) _
    rw [nb_dif, sb.2.2.2.1]
    refine zr_ialdv hE eX12_leastOf_96 zs68 (vpn (show (s ^^^ lwb s) ^^^ p < 512 by omega) (by decide)) ((congrArg (u 68) (nI_clamp (by omega))).trans ((ho _ (by omega)).trans (hL _ sb.2.2.2.2.2.2.2))) ?_
    refine zr_iadd hE eX12_leastOf_97 ?_
    refine zr_istore hE eX12_leastOf_98 (by decide) rfl ?_
    refine zr_aload_n hE eX12_leastOf_100 rfl ?_
    refine zr_getR hE eX12_leastOf_101 fX12_40 zs57 rfl ?_
    refine zr_iload_n hE eX12_leastOf_104 rfl ?_
    refine zr_iload hE eX12_leastOf_105 rfl ?_
    refine zr_aload_n hE eX12_leastOf_107 rfl ?_
    refine zr_getR hE eX12_leastOf_108 fX12_40 zs57 rfl ?_
    refine zr_iload_n hE eX12_leastOf_111 rfl ?_
    refine zr_ialdv hE eX12_leastOf_112 zs68 (vpn hs (by decide)) ((congrArg (u 68) (nI_clamp (by omega))).trans hb) ?_
    refine zr_kicmp_ge hE eX12_leastOf_113 (tgt := 121) (by decide) (fun zc113 zd113 => ?_) (fun zc113 zd113 => ?_)
    · refine zr_aload_n hE eX12_leastOf_121 rfl ?_
      refine zr_getR hE eX12_leastOf_122 fX12_40 zs57 rfl ?_
      refine zr_iload_n hE eX12_leastOf_125 rfl ?_
      refine zr_ialdv hE eX12_leastOf_126 zs68 (vpn hs (by decide)) ((congrArg (u 68) (nI_clamp (by omega))).trans hb) ?_
      refine zr_iast hE eX12_leastOf_127 zs68 (vpn hs (by decide)) ?_
      refine zr_mask hE [true, true, true, true, true, true, false] ?_
      rw [nI_clamp (show s < 2 ^ 31 by omega)]
      refine half _ (fun q hq => ?_) (fun t ht => ?_) ?_
      · rw [← hf q hq]; funext z; exact wu_ne hq
      · rw [← ho t ht]; exact wu_nj ht
      · rw [wu_eq, mn, if_neg zc113]
    · refine zr_iload hE eX12_leastOf_116 rfl ?_
      refine zr_goto hE eX12_leastOf_118 (tgt := 127) (by decide) ?_
      refine zr_iast hE eX12_leastOf_127 zs68 (vpn hs (by decide)) ?_
      refine zr_mask hE [true, true, true, true, true, true, false] ?_
      rw [nI_clamp (show s < 2 ^ 31 by omega)]
      refine half _ (fun q hq => ?_) (fun t ht => ?_) ?_
      · rw [← hf q hq]; funext z; exact wu_ne hq
      · rw [← ho t ht]; exact wu_nj ht
      · rw [wu_eq, mn, if_pos zc113]
