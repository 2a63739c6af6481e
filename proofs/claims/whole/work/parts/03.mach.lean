/-! The machine over one fixed world: objects have numbers; a world holds the ints (fields, rows); references never change. -/
abbrev ww : Type := Nat → Nat → Int32
def wu (w : ww) (o i : Nat) (v : Int32) : ww := fun a b => if a = o then (if b = i then v else w a b) else w a b
abbrev zSh : Type := (Nat × List (Option Nat)) ⊕ (Nat ⊕ ((Nat × List Nat) ⊕ Nat))
/-- an object: number of its class, its fields (none: an int; some: the object that it names) -/
abbrev zob (ci : Nat) (fl : List (Option Nat)) : zSh := .inl (ci, fl)
abbrev zia (n : Nat) : zSh := .inr (.inl n)
abbrev zra (t : Nat) (l : List Nat) : zSh := .inr (.inr (.inl (t, l)))
abbrev zla (n : Nat) : zSh := .inr (.inr (.inr n))
def zheap (h : Nat) : List zSh := [zob 5 [some 1, some (h+1), some (h+2), some (h+3), some (h+4), some (h+5), some (h+6), none, none], zia 10, zia 10, zia 10, zia 10, zia 10, zia 10]
def zshelf (h : Nat) : List zSh := [zob 10 [some (h+1), none, none, none, none, none], zia 100]
def zshapes : List zSh :=
  [zob 11 [some 1, some 10, some 17, some 24, some 31, some 40, none], zra 1 [2, 3, 4, 5, 6, 7, 8, 9],
   zob 0 [], zob 8 [], zob 6 [], zob 3 [], zob 9 [], zob 4 [], zob 1 [], zob 2 []] ++ zheap 10 ++ zheap 17 ++ zheap 24 ++
  [zob 7 [some 32, some 33, some 34, some 35, some 36, some 37, some 38, some 39, none, none, none], zia 512, zia 512, zia 512, zia 512, zia 512, zia 9, zia 9, zia 9,
   zra 2 [41, 43, 45, 47, 49, 51, 53, 55]] ++ zshelf 41 ++ zshelf 43 ++ zshelf 45 ++ zshelf 47 ++ zshelf 49 ++ zshelf 51 ++ zshelf 53 ++ zshelf 55 ++
  [zob 12 [some 58, some 59, some 60, some 61, some 62, some 63, some 64, some 65, some 66, none, none, none, none, none, none, some 67, some 68, some 69, some 70, none],
   zia 52, zia 52, zia 52, zia 8, zia 8, zia 8, zia 800, zia 8, zia 8, zia 5, zia 512, zia 512, zia 10, zla 1]
def zfs (φ : Nat → Nat) (w : ww) (o : Nat) : Nat → List (Option Nat) → List Value
  | _, [] => []
  | k, none :: l => .int (w o k) :: zfs φ w o (k + 1) l
  | k, some r :: l => .ref (φ r) :: zfs φ w o (k + 1) l
def zfv (φ : Nat → Nat) (w : ww) (o k : Nat) : Option Nat → Value
  | none => .int (w o k)
  | some r => .ref (φ r)
theorem zfs_get (φ : Nat → Nat) (w : ww) (o : Nat) : ∀ (fl : List (Option Nat)) (j k : Nat), (zfs φ w o j fl)[k]? = (fl[k]?).map (zfv φ w o (j + k))
  | [], j, k => by simp [zfs]
  | none :: l, j, 0 => by simp [zfs, zfv]
  | some r :: l, j, 0 => by simp [zfs, zfv]
  | none :: l, j, k + 1 => by
    have h := zfs_get φ w o l (j + 1) k
    simp only [zfs, List.getElem?_cons_succ, h]
    congr 2; omega
  | some r :: l, j, k + 1 => by
    have h := zfs_get φ w o l (j + 1) k
    simp only [zfs, List.getElem?_cons_succ, h]
    congr 2; omega
theorem zfs_len (φ : Nat → Nat) (w : ww) (o : Nat) : ∀ (fl : List (Option Nat)) (j : Nat), (zfs φ w o j fl).length = fl.length
  | [], j => rfl
  | none :: l, j => by simp [zfs, zfs_len φ w o l]
  | some r :: l, j => by simp [zfs, zfs_len φ w o l]
theorem zfs_set (φ : Nat → Nat) (w : ww) (o : Nat) (fl : List (Option Nat)) (k : Nat) (v : Int32) (hk : fl[k]? = some none) : (zfs φ w o 0 fl).set k (.int v) = zfs φ (wu w o k v) o 0 fl := by
  have hl : k < fl.length := (List.getElem?_eq_some_iff.mp hk).1
  apply List.ext_getElem?
  intro i
  by_cases hi : i = k
  · subst hi
    rw [List.getElem?_set_self (by rw [zfs_len]; exact hl), zfs_get, hk]
    simp [zfv, wu]
  · rw [List.getElem?_set_ne (Ne.symm hi), zfs_get, zfs_get]
    cases hf : fl[i]? with
    | none => rfl
    | some f =>
      cases f with
      | none => simp [zfv, wu, hi]
      | some r => simp [zfv]
theorem zfs_congr (φ : Nat → Nat) (w w' : ww) (o : Nat) (h : w o = w' o) (fl : List (Option Nat)) (j : Nat) : zfs φ w o j fl = zfs φ w' o j fl := by
  apply List.ext_getElem?
  intro i
  rw [zfs_get, zfs_get]
  cases hf : fl[i]? with
  | none => rfl
  | some f => cases f <;> simp [zfv, h]
def zcell (φ : Nat → Nat) (cA : Nat → ClassId) (w : ww) (o : Nat) : zSh → va_E
  | .inl (ci, fl) => .inr (ci, zfs φ w o 0 fl)
  | .inr (.inl n) => .inl (cA 0, n, .inl (w o))
  | .inr (.inr (.inl (t, l))) => .inl (cA t, l.length, .inr (.inr (.inr (.inr (fun k => (l[k]?).map φ)))))
  | .inr (.inr (.inr n)) => .inl (cA 3, n, .inr (.inl (fun k => (w o k).toInt64)))
theorem zcell_congr (φ : Nat → Nat) (cA : Nat → ClassId) (w w' : ww) (o : Nat) (h : w o = w' o) (sh : zSh) : zcell φ cA w o sh = zcell φ cA w' o sh := by
  rcases sh with ⟨ci, fl⟩ | n | ⟨t, l⟩ | n
  · simp [zcell, zfs_congr φ w w' o h]
  · simp [zcell, h]
  · simp [zcell]
  · simp [zcell, h]
def zWS (φ : Nat → Nat) (cA : Nat → ClassId) (w : ww) : va_W := zshapes.mapIdx (fun o sh => (φ o, zcell φ cA w o sh))
theorem zWS_get {φ : Nat → Nat} {cA : Nat → ClassId} {w : ww} {o : Nat} {sh : zSh} (h : zshapes[o]? = some sh) : (zWS φ cA w)[o]? = some (φ o, zcell φ cA w o sh) := by
  simp [zWS, h]
theorem zWS_set {φ : Nat → Nat} {cA : Nat → ClassId} {w w' : ww} {o : Nat} {sh : zSh} (h : zshapes[o]? = some sh) (hw : ∀ p, p ≠ o → w p = w' p) : (zWS φ cA w).set o (φ o, zcell φ cA w' o sh) = zWS φ cA w' := by
  have hl : o < zshapes.length := (List.getElem?_eq_some_iff.mp h).1
  apply List.ext_getElem?
  intro i
  by_cases hi : i = o
  · subst hi
    rw [List.getElem?_set_self (by simp [zWS]; exact hl), zWS_get h]
  · rw [List.getElem?_set_ne (Ne.symm hi)]
    simp only [zWS, List.getElem?_mapIdx]
    cases hs : zshapes[i]? with
    | none => rfl
    | some s => simp [zcell_congr φ cA w w' i (hw i hi) s]
theorem wu_off {w : ww} {o i : Nat} {v : Int32} {p : Nat} (h : p ≠ o) : w p = wu w o i v p := by
  funext b
  simp [wu, h]
/-- the values that a frame holds: numbers of objects for addresses -/
def tv (φ : Nat → Nat) : Value → Value
  | .ref a => .ref (φ a)
  | v => v
theorem tv_cat (φ : Nat → Nat) (v : Value) : (tv φ v).category = v.category := by cases v <;> rfl
abbrev zL : Type := List (Option Value)
def zas (φ : Nat → Nat) : Nat → zL → List (Nat × Value)
  | _, [] => []
  | j, none :: l => zas φ (j + 1) l
  | j, some v :: l => (j, tv φ v) :: zas φ (j + 1) l
theorem zas_mem {φ : Nat → Nat} : ∀ (L : zL) (j : Nat) (q : Nat × Value), q ∈ zas φ j L ↔ ∃ (i : Nat) (v : Value), L[i]? = some (some v) ∧ q = (j + i, tv φ v)
  | [], j, q => by simp [zas]
  | none :: l, j, q => by
    rw [zas, zas_mem l (j + 1) q]
    constructor
    · rintro ⟨i, v, h, rfl⟩
      exact ⟨i + 1, v, by simpa using h, by congr 1; omega⟩
    · rintro ⟨i, v, h, rfl⟩
      cases i with
      | zero => simp at h
      | succ i => exact ⟨i, v, by simpa using h, by congr 1; omega⟩
  | some u :: l, j, q => by
    rw [zas, List.mem_cons, zas_mem l (j + 1) q]
    constructor
    · rintro (rfl | ⟨i, v, h, rfl⟩)
      · exact ⟨0, u, by simp, by simp⟩
      · exact ⟨i + 1, v, by simpa using h, by congr 1; omega⟩
    · rintro ⟨i, v, h, rfl⟩
      cases i with
      | zero =>
        simp at h
        subst h
        exact Or.inl (by simp)
      | succ i => exact Or.inr ⟨i, v, by simpa using h, by congr 1; omega⟩
def zlok (φ : Nat → Nat) (ls : Array Slot) (nL : Nat) (L : zL) : Prop := lv_has ls nL (zas φ 0 L)
theorem zlok.at {φ : Nat → Nat} {ls : Array Slot} {nL : Nat} {L : zL} (h : zlok φ ls nL L) {k : Nat} {v : Value} (hk : L[k]? = some (some v)) : ls[k]? = some (.val (tv φ v)) :=
  h.2.2 (k, tv φ v) ((zas_mem L 0 _).mpr ⟨k, v, hk, by simp⟩)
def znl (L : zL) : Bool := L.all (fun o => match o with | some (.long _) => false | some (.double _) => false | _ => true)
theorem znl_cat {L : zL} (h : znl L = true) {i : Nat} {v : Value} (hv : L[i]? = some (some v)) : ¬ v.category = 2 := by
  have h1 := List.all_eq_true.mp h _ (List.mem_of_getElem? hv)
  cases v <;> simp_all [Value.category]
theorem zlok.set {φ : Nat → Nat} {ls' : Array Slot} {nL : Nat} {L : zL} {i : Nat} {v : Value} (hn : znl L = true)
    (h : lv_has ls' nL ((i, tv φ v) :: (zas φ 0 L).filter (fun q => !(q.1 == i) && !(q.1 + 1 == i && q.2.category == 2)))) : zlok φ ls' nL (L.set i (some v)) := by
  refine ⟨h.1, h.2.1, fun q hq => h.2.2 q ?_⟩
  obtain ⟨k, u, hk, rfl⟩ := (zas_mem _ 0 q).mp hq
  simp only [Nat.zero_add]
  by_cases hki : k = i
  · subst hki
    have hl : k < L.length := by
      have := (List.getElem?_eq_some_iff.mp hk).1
      simpa using this
    rw [List.getElem?_set_self hl] at hk
    cases hk
    exact List.mem_cons_self
  · rw [List.getElem?_set_ne (Ne.symm hki)] at hk
    refine List.mem_cons_of_mem _ (List.mem_filter.mpr ⟨(zas_mem L 0 _).mpr ⟨k, u, hk, by simp⟩, ?_⟩)
    have hc := znl_cat hn hk
    simp [hki, tv_cat, hc]
theorem zlok.sub {φ : Nat → Nat} {ls : Array Slot} {nL : Nat} {L L' : zL} (h : zlok φ ls nL L) (hs : ∀ (k : Nat) (v : Value), L'[k]? = some (some v) → L[k]? = some (some v)) : zlok φ ls nL L' := by
  refine ⟨h.1, h.2.1, fun q hq => h.2.2 q ?_⟩
  obtain ⟨k, u, hk, rfl⟩ := (zas_mem _ 0 q).mp hq
  exact (zas_mem L 0 _).mpr ⟨k, u, hs k u hk, rfl⟩
/-- forgetting locals -/
def zfm : List Bool → zL → zL
  | _, [] => []
  | [], _ :: L => none :: zfm [] L
  | true :: ms, v :: L => v :: zfm ms L
  | false :: ms, _ :: L => none :: zfm ms L
theorem zfm_sub : ∀ (ms : List Bool) (L : zL) (k : Nat) (v : Value), (zfm ms L)[k]? = some (some v) → L[k]? = some (some v)
  | _, [], k, v, h => by simp [zfm] at h
  | [], a :: L, 0, v, h => by simp [zfm] at h
  | [], a :: L, k + 1, v, h => by
    simp only [zfm, List.getElem?_cons_succ] at h ⊢
    exact zfm_sub [] L k v h
  | true :: ms, a :: L, 0, v, h => by simpa [zfm] using h
  | false :: ms, a :: L, 0, v, h => by simp [zfm] at h
  | true :: ms, a :: L, k + 1, v, h => by
    simp only [zfm, List.getElem?_cons_succ] at h ⊢
    exact zfm_sub ms L k v h
  | false :: ms, a :: L, k + 1, v, h => by
    simp only [zfm, List.getElem?_cons_succ] at h ⊢
    exact zfm_sub ms L k v h
/-- the tables' words that every method has -/
def big : List Cond := lw_tbl.filter goodWord
theorem big_in {w : Cond} (h : w ∈ tables_1) (hg : goodWord w = true) : w ∈ big := List.mem_filter.mpr ⟨List.mem_append_right _ h, hg⟩
theorem big_sel {q : MethodName × Nat} (h : q ∈ lw_privs) : Cond.selects q.1.cls q.1 q.1 ∈ big := List.mem_filter.mpr ⟨List.mem_append_left _ (List.mem_map.mpr ⟨q, h, rfl⟩), rfl⟩
def zisN : Cond → Bool
  | .fieldLinkNest .. => true
  | .methodLinkNest .. => true
  | _ => false
def nests : List Cond := tables_1.filter zisN
theorem nests_in {w : Cond} (h : w ∈ tables_1) (hg : zisN w = true) : w ∈ nests := List.mem_filter.mpr ⟨h, hg⟩
theorem nests_warm {s U : State} (hW : s.WarmedH U.vm) (h : ∀ w ∈ nests, va_Nw w s) : ∀ w ∈ nests, va_Nw w U := by
  intro w hw
  have h1 := h w hw
  have h2 := (List.mem_filter.mp hw).2
  cases w <;> first | (cases h2; done) | exact va_Nw.warmF hW h1 | exact va_Nw.warmM hW h1
theorem nests_same {u U : State} (hvm : u.vm = U.vm) (h : ∀ w ∈ nests, va_Nw w u) : ∀ w ∈ nests, va_Nw w U := by
  intro w hw
  have h1 := h w hw
  have h2 := (List.mem_filter.mp hw).2
  cases w <;> first | (cases h2; done) | exact va_Nw.same rfl hvm h1
def ztys (cA : Nat → ClassId) : List (ClassId × FieldType) := [(cA 0, .int), (cA 1, .object "BowlsWithin$Bowl"), (cA 2, .object "BowlsWithin$Shelf"), (cA 3, .long)]
def zK (D : va_G) (cA : Nat → ClassId) (U : State) : Prop := va_K D vwCl (ztys cA) U ∧ ∀ w ∈ nests, va_Nw w U
theorem zK.warm {D : va_G} {cA : Nat → ClassId} {s U : State} (hW : s.WarmedH U.vm) (h : zK D cA s) : zK D cA U := ⟨va_K.moved hW.alike h.1, nests_warm hW h.2⟩
theorem zK.same {D : va_G} {cA : Nat → ClassId} {u U : State} (hvm : u.vm = U.vm) (h : zK D cA u) : zK D cA U := ⟨va_K.moved (by rw [← hvm]; exact Vm.Alike.refl _) h.1, nests_same hvm h.2⟩
abbrev zG : Type := Nat → zL → List Value → ww → Prop
def zV (p : Program) (l : Launch) (e : Env) (R : Room) (s : State) (m : MethodId) (args : Array Value) (below : List Frame) (meth : Method) (c : Code) (nL : Nat) (φ : Nat → Nat) (cA : Nat → ClassId) (D : va_G) (A : Nat → Prop) (H0 : Heap) (cells slots : Nat) (Qm : State → Prop) : zG := fun pc L S w =>
  ∀ (ls : Array Slot) (H : Heap) (locs : List Loc), zlok φ ls nL L → va_P D vwCl (zWS φ cA w) H → va_D A (zWS φ cA w) → va_S A H0 H locs →
    W p l e R s m args below meth c H locs cells slots Qm (F0 m pc ls (S.map (tv φ)))
/-- a walk of a method of class own, with the code cc: what holds at each place -/
def zE (own : String) (cc : ByteArray) (nL n : Nat) (G : zG) : Prop := ∃ (p : Program) (l : Launch) (e : Env) (R : Room) (s : State) (m : MethodId) (args : Array Value) (below : List Frame) (meth : Method) (c : Code) (φ : Nat → Nat) (cA : Nat → ClassId) (D : va_G) (A : Nat → Prop) (H0 : Heap) (cells slots : Nat) (Qm : State → Prop) (Ts : List Cond),
  G = zV p l e R s m args below meth c nL φ cA D A H0 cells slots Qm ∧ CallFix p m c cc nL s args Ts own ∧ (∀ w ∈ big, w ∈ Ts) ∧ zK D cA s ∧ (∀ q, H0.size ≤ q → A q) ∧ n ≤ R.frames ∧ 60 * n ≤ R.locals ∧ cells ≤ R.cells ∧ slots ≤ R.slots
def zR (own : String) (cc : ByteArray) (nL n : Nat) (ret : Option FieldType) (Q : Option Value → ww → Prop) (G : zG) : Prop := zE own cc nL n G ∧
  (∀ (ty : FieldType) (v : Int32) (pc : Nat) (L : zL) (w : ww) (np : Nat), zD cc pc .ireturn 1 np → ret = some ty → narrow ty (.int v) = .int v → Q (some (.int v)) w → G pc L [.int v] w) ∧
  (∀ (v : Int64) (pc : Nat) (L : zL) (w : ww) (np : Nat), zD cc pc .lreturn 1 np → ret = some .long → Q (some (.long v)) w → G pc L [.long v] w) ∧
  (∀ (pc : Nat) (L : zL) (w : ww) (np : Nat), zD cc pc .return_ 1 np → ret = none → Q none w → G pc L [] w)
