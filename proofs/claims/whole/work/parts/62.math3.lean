/-! The reference's nests and heights are the class's. -/
theorem omF_max {out : Nat → Int32} {s : Nat} : ∀ {n a : Nat}, omF out s n = some a → ∀ i, i < n → s.testBit i = true → out i ≤ out a
  | 0, a, h, i, hi, _ => absurd hi (by omega)
  | n + 1, a, h, i, hi, hb => by
    rw [omF] at h
    cases h2 : omF out s n with
    | none =>
      rw [h2] at h
      have hz := omF_none h2
      by_cases q : s.testBit n = true
      · simp only [if_pos q] at h
        cases h
        by_cases qi : i = n
        · rw [qi]; exact Int32.le_refl _
        · have := hz i (by omega); rw [this] at hb; cases hb
      · simp only [if_neg q] at h; cases h
    | some b =>
      rw [h2] at h
      have ih := omF_max h2
      by_cases q : s.testBit n = true ∧ out b < out n
      · simp only [if_pos q] at h
        cases h
        by_cases qi : i = n
        · rw [qi]; exact Int32.le_refl _
        · exact Int32.le_trans (ih i (by omega) hb) (Int32.le_of_lt q.2)
      · simp only [if_neg q] at h
        cases h
        by_cases qi : i = n
        · subst qi
          exact Int32.not_lt.mp (fun z => q ⟨hb, z⟩)
        · exact ih i (by omega) hb
/-- the outermost first -/
def dlF (out : Nat → Int32) : Nat → Nat → List Nat
  | 0, _ => []
  | k + 1, left => if left = 0 then [] else match omF out left 10 with
    | none => []
    | some b => b :: dlF out k (nDif left (2 ^ b))
theorem dlF_0 {out : Nat → Int32} : ∀ k, dlF out k 0 = []
  | 0 => rfl
  | k + 1 => by rw [dlF, if_pos rfl]
theorem dlF_s {out : Nat → Int32} {k left b : Nat} (h0 : left ≠ 0) (hb : omF out left 10 = some b) : dlF out (k + 1) left = b :: dlF out k (nDif left (2 ^ b)) := by
  rw [dlF, if_neg h0, hb]
theorem inF_dl {lz : Nat → Nat → Bool} {out : Nat → Int32} : ∀ (k left : Nat), (inF lz out k left none = chn (fun a b => lz b a) (dlF out k left)) ∧ ∀ a, inF lz out k left (some a) = chn (fun a b => lz b a) (a :: dlF out k left)
  | 0, left => ⟨rfl, fun a => rfl⟩
  | k + 1, left => by
    by_cases h0 : left = 0
    · subst h0
      rw [dlF_0]
      refine ⟨?_, fun a => ?_⟩
      · rw [inF, if_pos rfl]; rfl
      · rw [inF, if_pos rfl]; rfl
    · cases hb : omF out left 10 with
      | none =>
        refine ⟨?_, fun a => ?_⟩
        · rw [inF, if_neg h0, dlF, if_neg h0, hb]; rfl
        · rw [inF, if_neg h0, dlF, if_neg h0, hb]; rfl
      | some b =>
        obtain ⟨h1, h2⟩ := inF_dl (lz := lz) (out := out) k (nDif left (2 ^ b))
        rw [dlF_s h0 hb]
        refine ⟨?_, fun a => ?_⟩
        · rw [inF, if_neg h0, hb]; exact h2 b
        · rw [inF, if_neg h0, hb, chn]
          show (if lz b a = true then inF lz out k (nDif left (2 ^ b)) (some b) else false) = (lz b a && _)
          rw [← h2 b]
          cases lz b a <;> rfl
theorem dlF_mem {out : Nat → Int32} : ∀ (k left : Nat), left ≤ k → left < 1024 → ∀ x, x ∈ dlF out k left ↔ left.testBit x = true
  | 0, left, h, _, x => by
    obtain rfl : left = 0 := by omega
    rw [dlF_0, Nat.zero_testBit]; simp
  | k + 1, left, h, hl, x => by
    by_cases h0 : left = 0
    · subst h0
      rw [dlF_0, Nat.zero_testBit]; simp
    · obtain ⟨b, hb⟩ := omF_ex (out := out) hl h0
      have hx := omF_lt hb
      have hd := nDif_lt hl hx.2
      rw [dlF_s h0 hb, List.mem_cons, dlF_mem k _ (by omega) (by omega), tb_dif (by omega), tb_one]
      by_cases q : x = b
      · subst q; simp [hx.2]
      · rw [decide_eq_false (fun z => q z.symm)]; simp [q]
theorem dlF_pw {out : Nat → Int32} : ∀ (k left : Nat), left ≤ k → left < 1024 → (dlF out k left).Pairwise (fun x y => out y ≤ out x ∧ x ≠ y)
  | 0, left, h, _ => by
    obtain rfl : left = 0 := by omega
    rw [dlF_0]; exact List.Pairwise.nil
  | k + 1, left, h, hl => by
    by_cases h0 : left = 0
    · subst h0
      rw [dlF_0]; exact List.Pairwise.nil
    · obtain ⟨b, hb⟩ := omF_ex (out := out) hl h0
      have hx := omF_lt hb
      have hd := nDif_lt hl hx.2
      rw [dlF_s h0 hb]
      refine List.Pairwise.cons (fun y hy => ?_) (dlF_pw k _ (by omega) (by omega))
      rw [dlF_mem k _ (by omega) (by omega), tb_dif (by omega), tb_one, Bool.and_eq_true] at hy
      have hy10 : y < 10 := lt_bit hl hy.1
      refine ⟨omF_max hb y hy10 hy.1, fun q => ?_⟩
      rw [q] at hy; simp at hy
theorem chn_snoc {lz : Nat → Nat → Bool} (a : Nat) : ∀ l : List Nat, chn lz (l ++ [a]) = (chn lz l && match l.getLast? with
    | none => true
    | some z => lz z a)
  | [] => rfl
  | [b] => by simp [chn]
  | b :: d :: l => by
    have ih := chn_snoc (lz := lz) a (d :: l)
    rw [List.cons_append, List.cons_append, chn, ← List.cons_append, ih, chn, List.getLast?_cons_cons, Bool.and_assoc]
theorem chn_rev {lz : Nat → Nat → Bool} : ∀ l : List Nat, chn lz l.reverse = chn (fun a b => lz b a) l
  | [] => rfl
  | [b] => rfl
  | a :: b :: l => by
    have ih := chn_rev (lz := lz) (b :: l)
    rw [List.reverse_cons, chn_snoc, ih, List.reverse_cons, List.getLast?_concat, chn, Bool.and_comm]
theorem chn_pw {lz : Nat → Nat → Bool} {out : Nat → Int32} : ∀ l : List Nat, (∀ x ∈ l, ∀ y ∈ l, lz x y = true → out x < out y) → chn lz l = true → l.Pairwise (fun x y => out x < out y)
  | [], _, _ => List.Pairwise.nil
  | [a], _, _ => List.pairwise_singleton _ _
  | a :: b :: l, h, hc => by
    rw [chn, Bool.and_eq_true] at hc
    have ih := chn_pw (b :: l) (fun x hx y hy => h x (List.mem_cons_of_mem _ hx) y (List.mem_cons_of_mem _ hy)) hc.2
    have hab := h a (by simp) b (by simp) hc.1
    refine List.Pairwise.cons (fun y hy => ?_) ih
    rcases List.mem_cons.mp hy with rfl | hy
    · exact hab
    · exact Int32.lt_trans hab (List.rel_of_pairwise_cons ih hy)
theorem lt_nodup {out : Nat → Int32} {l : List Nat} (h : l.Pairwise (fun x y => out x < out y)) : l.Nodup := h.imp (fun hxy q => by subst q; exact Int32.lt_irrefl hxy)
theorem lt_uniq {out : Nat → Int32} {l k : List Nat} (h : l.Pairwise (fun x y => out x < out y)) (h2 : k.Pairwise (fun x y => out x < out y)) (hm : ∀ x, x ∈ l ↔ x ∈ k) : l = k :=
  List.Perm.eq_of_pairwise (le := fun x y => out x < out y) (fun x y _ _ a b => absurd (Int32.lt_trans a b) Int32.lt_irrefl) h h2 ((List.perm_ext_iff_of_nodup (lt_nodup h) (lt_nodup h2)).mpr hm)
/-- two of one outside -/
def tie (out : Nat → Int32) (l : List Nat) : Prop := ∃ x ∈ l, ∃ y ∈ l, x ≠ y ∧ out x = out y
theorem pw_notie {out : Nat → Int32} {l : List Nat} (h : l.Pairwise (fun x y => out x < out y)) : ¬ tie out l := by
  rintro ⟨x, hx, y, hy, hne, he⟩
  induction l with
  | nil => simp at hx
  | cons a l ih =>
    rcases List.mem_cons.mp hx with q1 | q1
    · rcases List.mem_cons.mp hy with q2 | q2
      · exact hne (q1.trans q2.symm)
      · have := List.rel_of_pairwise_cons h q2
        rw [← q1, he] at this; exact Int32.lt_irrefl this
    · rcases List.mem_cons.mp hy with q2 | q2
      · have := List.rel_of_pairwise_cons h q1
        rw [← q2, he] at this; exact Int32.lt_irrefl this
      · exact ih (List.Pairwise.of_cons h) q1 q2
theorem lstN_mem {B : zBv} {c t x : Nat} (ht : t < 2 ^ c) : x ∈ lstN B c t ↔ t.testBit x = true := by
  unfold lstN
  rw [List.mem_filter, ordO_mem]
  exact ⟨fun h => h.2, fun h => ⟨lt_bit ht h, h⟩⟩
theorem lstN_pw {B : zBv} {c t : Nat} (h : ¬ tie (oB B) (lstN B c t)) : (lstN B c t).Pairwise (fun x y => oB B x < oB B y) := by
  have h1 : (lstN B c t).Pairwise (fun x y => sO (oB B) x y ∧ x ≠ y) := ((ordO_sorted (oB B) c).and (ordO_nodup (oB B) c)).filter _
  refine List.Pairwise.imp_of_mem ?_ h1
  intro x y hx hy hxy
  rcases hxy.1 with q | q
  · exact q
  · exact absurd ⟨x, hx, y, hy, hxy.2, q.1⟩ h
theorem dl_pw {B : zBv} {t : Nat} (ht : t < 1024) (h : ¬ tie (oB B) (dlF (oB B) t t)) : (dlF (oB B) t t).reverse.Pairwise (fun x y => oB B x < oB B y) := by
  rw [List.pairwise_reverse]
  refine List.Pairwise.imp_of_mem ?_ (dlF_pw t t (Nat.le_refl _) ht)
  intro x y hx hy hxy
  refine Int32.lt_of_le_of_ne hxy.1 (fun q => h ⟨x, hx, y, hy, hxy.2, q.symm⟩)
/-- lies is narrower outside -/
def Wid (lz : Nat → Nat → Bool) (out : Nat → Int32) (c : Nat) : Prop := ∀ a b, a < c → b < c → lz a b = true → out a < out b
theorem p210 {c : Nat} (h : c ≤ 10) : 2 ^ c ≤ 1024 := Nat.pow_le_pow_right (n := 2) (by decide) h
theorem dl_rev {B : zBv} {c t : Nat} (hc : c ≤ 10) (ht : t < 2 ^ c) (h : ¬ tie (oB B) (lstN B c t)) : (dlF (oB B) t t).reverse = lstN B c t := by
  have h9 := p210 hc
  have ht10 : t < 1024 := by omega
  have hm : ∀ x, x ∈ dlF (oB B) t t ↔ x ∈ lstN B c t := fun x => by rw [dlF_mem t t (Nat.le_refl _) ht10, lstN_mem ht]
  have h2 : ¬ tie (oB B) (dlF (oB B) t t) := by
    rintro ⟨x, hx, y, hy, a, b⟩
    exact h ⟨x, (hm x).mp hx, y, (hm y).mp hy, a, b⟩
  exact lt_uniq (dl_pw ht10 h2) (lstN_pw h) (fun x => by rw [List.mem_reverse]; exact hm x)
theorem chn_eq {B : zBv} {c t : Nat} {lz : Nat → Nat → Bool} (hc : c ≤ 10) (hw : Wid lz (oB B) c) (ht : t < 2 ^ c) : chn (fun a b => lz b a) (dlF (oB B) t t) = chn lz (lstN B c t) := by
  have h9 := p210 hc
  have ht10 : t < 1024 := by omega
  have hm : ∀ x, x ∈ dlF (oB B) t t ↔ x ∈ lstN B c t := fun x => by rw [dlF_mem t t (Nat.le_refl _) ht10, lstN_mem ht]
  by_cases q : tie (oB B) (lstN B c t)
  · have e1 : chn lz (lstN B c t) = false := Bool.eq_false_iff.mpr (fun z => by
      refine pw_notie (chn_pw _ (fun x hx y hy hl => ?_) z) q
      exact hw x y (lt_bit ht ((lstN_mem ht).mp hx)) (lt_bit ht ((lstN_mem ht).mp hy)) hl)
    have e2 : chn (fun a b => lz b a) (dlF (oB B) t t) = false := Bool.eq_false_iff.mpr (fun z => by
      rw [← chn_rev] at z
      have hp := chn_pw (out := oB B) _ (fun x hx y hy hl => by
        rw [List.mem_reverse, hm, lstN_mem ht] at hx hy
        exact hw x y (lt_bit ht hx) (lt_bit ht hy) hl) z
      refine pw_notie hp ?_
      obtain ⟨x, hx, y, hy, a, b⟩ := q
      exact ⟨x, List.mem_reverse.mpr ((hm x).mpr hx), y, List.mem_reverse.mpr ((hm y).mpr hy), a, b⟩)
    rw [e1, e2]
  · rw [← chn_rev, dl_rev hc ht q]
theorem nsB_l {B : zBv} {v : Int32} {c t : Nat} (hc : c ≤ 10) (hw : Wid (fun a b => fLi B a b v) (oB B) c) (ht : t < 2 ^ c) : nsB B v t = gN (fun a b => fLi B a b v) (lstN B c t) := by
  apply Bool.eq_iff_iff.mpr
  rw [gN_iff ht, ← chn_eq hc hw ht]
  unfold nsB
  rw [Bool.and_eq_true, (inF_dl t t).1, decide_eq_true_eq]
def smL (f : Nat → Int32) : List Nat → Int32
  | [] => 0
  | a :: l => f a + smL f l
theorem smL_app (f : Nat → Int32) : ∀ l k : List Nat, smL f (l ++ k) = smL f l + smL f k
  | [], k => by rw [List.nil_append, smL, Int32.zero_add]
  | a :: l, k => by rw [List.cons_append, smL, smL, smL_app f l k, Int32.add_assoc]
theorem smL_perm (f : Nat → Int32) {l k : List Nat} (h : l.Perm k) : smL f l = smL f k := by
  induction h with
  | nil => rfl
  | cons x _ ih => rw [smL, smL, ih]
  | swap x y l => rw [smL, smL, smL, smL, ← Int32.add_assoc, ← Int32.add_assoc, Int32.add_comm (f y)]
  | trans _ _ h1 h2 => exact h1.trans h2
theorem hgt_snoc (ri de : Nat → Int32) (z : Nat) : ∀ l : List Nat, hgt ri de (l ++ [z]) = smL ri l + de z
  | [] => by rw [List.nil_append, hgt, smL, Int32.zero_add]
  | [a] => by show ri a + de z = ri a + 0 + de z; rw [Int32.add_zero]
  | a :: b :: l => by
    have ih := hgt_snoc ri de z (b :: l)
    rw [List.cons_append, List.cons_append, hgt, ← List.cons_append, ih]
    exact (Int32.add_assoc _ _ _).symm
theorem hoF_sm {ri : Nat → Int32} {s l : Nat} {v : Int32} : ∀ n, hoF ri s l n v = v + smL ri ((List.range n).filter (fun i => s.testBit i && !decide (i = l)))
  | 0 => by rw [hoF, List.range_zero, List.filter_nil, smL, Int32.add_zero]
  | n + 1 => by
    rw [hoF, hoF_sm n, List.range_succ, List.filter_append, smL_app]
    by_cases q : s.testBit n = true ∧ n ≠ l
    · rw [if_pos q, List.filter_cons_of_pos (by simp [q.1, q.2]), List.filter_nil, smL, smL, Int32.add_zero, Int32.add_assoc]
    · rw [if_neg q, List.filter_cons_of_neg (by simp; intro a; exact Decidable.not_not.mp (fun z => q ⟨a, z⟩)), List.filter_nil, smL, Int32.add_zero]
theorem mHt_l {B : zBv} {v : Int32} {c t : Nat} (hc : c ≤ 10) (hw : Wid (fun a b => fLi B a b v) (oB B) c) (ht : t < 2 ^ c) (hg : gN (fun a b => fLi B a b v) (lstN B c t) = true) : mHt B t = hgt (fRi B) (B 4) (lstN B c t) := by
  have h9 := p210 hc
  have ht10 : t < 1024 := by omega
  obtain ⟨h0, hch⟩ := (gN_iff ht).mp hg
  have hp := chn_pw (out := oB B) (lz := fun a b => fLi B a b v) _ (fun x hx y hy hl => hw x y (lt_bit ht ((lstN_mem ht).mp hx)) (lt_bit ht ((lstN_mem ht).mp hy)) hl) hch
  obtain ⟨z, hz⟩ := omF_ex (out := oB B) ht10 h0
  have hzt := omF_lt hz
  have hr := dl_rev hc ht (pw_notie hp)
  obtain ⟨k, rfl⟩ : ∃ k, t = k + 1 := ⟨t - 1, by omega⟩
  rw [dlF_s h0 hz, List.reverse_cons] at hr
  rw [← hr, hgt_snoc]
  unfold mHt
  rw [hz]
  show hoF _ _ _ _ _ = _
  rw [hoF_sm, Int32.add_comm]
  congr 1
  refine smL_perm _ ((List.perm_ext_iff_of_nodup (List.nodup_range.filter _) ?_).mpr (fun x => ?_))
  · have := lt_nodup hp
    rw [← hr] at this
    exact (List.nodup_append.mp this).1
  · have hl := nDif_lt ht10 hzt.2
    rw [List.mem_reverse, dlF_mem k _ (by omega) (by omega), tb_dif (by omega), tb_one, List.mem_filter, List.mem_range, Bool.and_eq_true, Bool.and_eq_true]
    constructor
    · rintro ⟨-, a, b⟩
      refine ⟨a, ?_⟩
      by_cases q : x = z
      · rw [decide_eq_true q] at b; cases b
      · rw [decide_eq_false (fun w => q w.symm)]; rfl
    · rintro ⟨a, b⟩
      refine ⟨lt_bit ht10 a, a, ?_⟩
      by_cases q : x = z
      · rw [decide_eq_true q.symm] at b; cases b
      · rw [decide_eq_false q]; rfl
