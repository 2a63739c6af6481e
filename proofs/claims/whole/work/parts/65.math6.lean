/-! Both sides answer alike: judge, out, next, count, spans. -/
theorem rg_lt {x : Int32} {c : Nat} (hc : c ≤ 9) (h : 0 ≤ x ∧ x < nI c) : x.toNatClampNeg < c := by
  obtain ⟨a, ha, rfl⟩ := nI_ge0 h.1
  rw [nI_clamp ha]
  exact (nI_ltI ha (by omega)).mp h.2
theorem fmF_cong {f g : Nat → Int32} {c : Nat} {li li2 : Nat → Nat → Bool} (hc : c ≤ 9) (hl : ∀ a b, a < c → b < c → li a b = li2 a b) : ∀ (k i : Nat) (came : Int32), (∀ j, j < i + k → f j = g j) → (0 < i → 0 ≤ f (i - 1) ∧ f (i - 1) < nI c) → fmF f (nI c) li k i came = fmF g (nI c) li2 k i came
  | 0, i, came, _, _ => rfl
  | k + 1, i, came, hf, hp => by
    rw [fmF, fmF, ← hf i (by omega)]
    by_cases q : ¬ (0 ≤ f i ∧ f i < nI c) ∨ (came >>> (f i &&& 31)) &&& 1 = 1
    · rw [if_pos q, if_pos q]
    · rw [if_neg q, if_neg q]
      have hr : 0 ≤ f i ∧ f i < nI c := Decidable.not_not.mp (fun z => q (Or.inl z))
      have ih := fmF_cong hc hl k (i + 1) (came ||| ((1 : Int32) <<< (f i &&& 31))) (fun j hj => hf j (by omega)) (fun _ => by rw [Nat.add_sub_cancel]; exact hr)
      by_cases z : 0 < i
      · have hr2 := hp z
        rw [← hf (i - 1) (by omega), hl _ _ (rg_lt hc hr) (rg_lt hc hr2), ih]
      · rw [if_neg (fun w => z w.1), if_neg (fun w => z w.1), ih]
theorem ouF_cong {f g : Nat → Int32} {c : Nat} {li li2 : Nat → Nat → Bool} (hc : c ≤ 9) (hl : ∀ a b, a < c → b < c → li a b = li2 a b) : ∀ (m : Nat) (t : Int32), (∀ j, j < m → f j = g j) → (∀ j, j < m → 0 ≤ f j ∧ f j < nI c) → ouF f li m t = ouF g li2 m t
  | 0, t, _, _ => rfl
  | m + 1, t, hf, hr => by
    have ih := ouF_cong hc hl m (t + 1) (fun j hj => hf j (by omega)) (fun j hj => hr j (by omega))
    rw [ouF, ouF, ih]
    by_cases z : 0 < m
    · rw [← hf m (by omega), ← hf (m - 1) (by omega), hl _ _ (rg_lt hc (hr m (by omega))) (rg_lt hc (hr (m - 1) (by omega)))]
    · rw [if_neg (fun w => z w.1), if_neg (fun w => z w.1)]
theorem fSp_cong {B B2 : zBv} {a b : Nat} {sa sb v : Int32} (ha : ∀ k, k < 5 → B k a = B2 k a) (hb : ∀ k, k < 5 → B k b = B2 k b) : fSp B a sa b sb v = fSp B2 a sa b sb v := by
  unfold fSp fAg fOut fIn
  simp only [ha 0 (by decide), ha 1 (by decide), ha 2 (by decide), ha 3 (by decide), ha 4 (by decide), hb 0 (by decide), hb 1 (by decide), hb 2 (by decide), hb 3 (by decide), hb 4 (by decide)]
theorem sumN_cong {f g : Nat → Int32} : ∀ n, (∀ i, i < n → f i = g i) → sumN f n = sumN g n
  | 0, _ => rfl
  | n + 1, h => by rw [sumN, sumN, sumN_cong n (fun i hi => h i (by omega)), h n (by omega)]
theorem Rlt.pp {B M : zBv} {c kn : Nat} {v e : Int32} (h : Rlt B M c v) : fPp B v e kn c = fPp M v e kn c := by
  unfold fPp
  refine sumN_cong c (fun a ha => sumN_cong c (fun b hb => ?_))
  rw [fSp_cong (fun k hk => h.2.2.1 k a hk ha) (fun k hk => h.2.2.1 k b hk hb)]
theorem nx_eq {f g : Nat → Int32} {c : Nat} : ∀ (k i : Nat) (b s : Int32), i + k < 1000 → (b = -4 ∨ 0 ≤ b) → (∀ j, j < i + k → f j = g j) → nxF f c k i b s = nx2 g c k i b s
  | 0, i, b, s, _, _, _ => rfl
  | k + 1, i, b, s, hi, hb, hf => by
    rw [nxF, nx2, ← hf i (by omega)]
    by_cases q : b = -4 ∨ f i < s
    · rw [if_pos q, if_neg (fun z => q.elim (fun w => by rw [w] at z; exact absurd z.1 (by decide)) (fun w => absurd z.2 (Int32.not_le.mpr w)))]
      exact nx_eq k (i + 1) _ _ (by omega) (Or.inr (nI_pos' (by omega))) (fun j hj => hf j (by omega))
    · rw [if_neg q, if_pos ⟨hb.elim (fun w => absurd (Or.inl w) q) id, Int32.not_lt.mp (fun w => q (Or.inr w))⟩]
      exact nx_eq k (i + 1) _ _ (by omega) hb (fun j hj => hf j (by omega))
theorem Rlt.next {B M : zBv} {c : Nat} {v e : Int32} (h : Rlt B M c v) : nxR B v e c = nxM M v e c := by
  unfold nxR nxM
  exact nx_eq c 0 (-4) (-4) (by have := h.1; omega) (Or.inl rfl) (fun j _ => h.pp)
theorem Rlt.ds {B M : zBv} {c : Nat} {v : Int32} (h : Rlt B M c v) : fDs B c = fDs M c := sumN_cong c (fun i hi => h.2.2.1 4 i (by decide) hi)
-- pairs
theorem ciF_sum {lz : Nat → Nat → Bool} {a : Nat} : ∀ (k b : Nat) (s : Int32), ciF lz a k b s = s + sumN (fun j => one (lz a (b + j) || lz (b + j) a)) k
  | 0, b, s => by rw [ciF, sumN, Int32.add_zero]
  | k + 1, b, s => by
    rw [ciF, ciF_sum k (b + 1)]
    have e : ∀ n, sumN (fun j => one (lz a (b + j) || lz (b + j) a)) (n + 1) = one (lz a b || lz b a) + sumN (fun j => one (lz a (b + 1 + j) || lz (b + 1 + j) a)) n := by
      intro n
      induction n with
      | zero => rw [sumN, sumN, sumN, Int32.zero_add, Int32.add_zero, Nat.add_zero]
      | succ n ih => rw [sumN, ih, sumN, Int32.add_assoc, show b + (n + 1) = b + 1 + n by omega]
    rw [e, Int32.add_assoc]
def tri2 (g : Nat → Nat → Int32) (c : Nat) : Nat → Int32 := fun i => sumN (fun j => g i (i + 1 + j)) (c - (i + 1))
theorem coF_sum {lz : Nat → Nat → Bool} {c : Nat} : ∀ (k a : Nat) (s : Int32), coF lz c k a s = s + sumN (fun i => tri2 (fun x y => one (lz x y || lz y x)) c (a + i)) k
  | 0, a, s => by rw [coF, sumN, Int32.add_zero]
  | k + 1, a, s => by
    rw [coF, coF_sum k (a + 1), ciF_sum]
    have e : ∀ n, sumN (fun i => tri2 (fun x y => one (lz x y || lz y x)) c (a + i)) (n + 1) = tri2 (fun x y => one (lz x y || lz y x)) c a + sumN (fun i => tri2 (fun x y => one (lz x y || lz y x)) c (a + 1 + i)) n := by
      intro n
      induction n with
      | zero => rw [sumN, sumN, sumN, Int32.zero_add, Int32.add_zero, Nat.add_zero]
      | succ n ih => rw [sumN, ih, sumN, Int32.add_assoc, show a + (n + 1) = a + 1 + n by omega]
    rw [e, Int32.add_assoc]; rfl
theorem sumN_add (f g : Nat → Int32) : ∀ n, sumN (fun i => f i + g i) n = sumN f n + sumN g n
  | 0 => by rw [sumN, sumN, sumN, Int32.add_zero]
  | n + 1 => by
    rw [sumN, sumN, sumN, sumN_add f g n]
    rw [Int32.add_assoc, Int32.add_assoc, ← Int32.add_assoc (sumN g n), Int32.add_comm (sumN g n) (f n), Int32.add_assoc (f n)]
theorem tri_sq {g : Nat → Nat → Int32} {p : Nat → Nat → Int32} (h0 : ∀ a, p a a = 0) (h : ∀ a b, a ≠ b → g a b = p a b + p b a) : ∀ c, sumN (fun i => tri2 g c i) c = sumN (fun a => sumN (fun b => p a b) c) c
  | 0 => rfl
  | c + 1 => by
    have ih := tri_sq h0 h c
    have e1 : sumN (fun i => tri2 g (c + 1) i) (c + 1) = sumN (fun i => tri2 g c i) c + sumN (fun i => g i c) c := by
      rw [sumN, ← sumN_add]
      have z : tri2 g (c + 1) c = 0 := by unfold tri2; rw [Nat.sub_self]; rfl
      rw [z, Int32.add_zero]
      refine sumN_cong c (fun i hi => ?_)
      unfold tri2
      rw [show c + 1 - (i + 1) = (c - (i + 1)) + 1 by omega, sumN, show i + 1 + (c - (i + 1)) = c by omega]
    have e2 : sumN (fun a => sumN (fun b => p a b) (c + 1)) (c + 1) = sumN (fun a => sumN (fun b => p a b) c) c + (sumN (fun a => p a c) c + sumN (fun b => p c b) c) := by
      rw [sumN]
      have : sumN (fun a => sumN (fun b => p a b) (c + 1)) c = sumN (fun a => sumN (fun b => p a b) c + p a c) c := sumN_cong c (fun a _ => by rw [sumN])
      rw [this, sumN_add, sumN, h0 c, Int32.add_zero, Int32.add_assoc]
    rw [e1, e2, ih]
    congr 1
    rw [← sumN_add]
    exact sumN_cong c (fun i hi => h i c (by omega))
theorem Rlt.pairs {B M : zBv} {c : Nat} {v : Int32} (h : Rlt B M c v) : fPs B v c = cn2 (fun a b => fLi M a b v) c := by
  have hw := h.wid
  have e0 : fPs B v c = sumN (fun a => sumN (fun b => one (decide (a < c) && decide (b < c) && !decide (a = b) && fLi M a b v)) c) c := by
    unfold fPs
    refine sumN_cong c (fun a ha => sumN_cong c (fun b hb => ?_))
    rw [h.li ha hb v, decide_eq_true ha, decide_eq_true hb, Bool.true_and, Bool.true_and]
  rw [e0]
  unfold cn2
  rw [coF_sum, Int32.zero_add]
  have e1 := tri_sq (p := fun a b => one (decide (a < c) && decide (b < c) && !decide (a = b) && fLi M a b v)) (g := fun a b => one (decide (a < c) && decide (b < c) && !decide (a = b) && fLi M a b v) + one (decide (b < c) && decide (a < c) && !decide (b = a) && fLi M b a v)) (fun a => by simp [one]) (fun a b _ => rfl) c
  rw [← e1]
  refine sumN_cong c (fun a ha => ?_)
  unfold tri2
  rw [Nat.zero_add]
  refine sumN_cong _ (fun j hj => ?_)
  have hb : a + 1 + j < c := by omega
  dsimp only
  rw [decide_eq_true ha, decide_eq_true hb, decide_eq_false (show ¬ a = a + 1 + j by omega), decide_eq_false (show ¬ a + 1 + j = a by omega)]
  simp only [Bool.true_and, Bool.not_false]
  cases z1 : fLi M a (a + 1 + j) v with
  | false =>
    rw [Bool.false_or]
    show one false + _ = _
    simp only [one, Int32.zero_add]
  | true =>
    cases z2 : fLi M (a + 1 + j) a v with
    | false => simp only [one, Int32.add_zero, Bool.or_false]
    | true => exact absurd (Int32.lt_trans (hw _ _ ha hb z1) (hw _ _ hb ha z2)) Int32.lt_irrefl
