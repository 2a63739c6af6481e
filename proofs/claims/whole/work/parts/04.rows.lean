/-! One row an instruction, over zE. -/
section ZRows
variable {own : String} {cc : ByteArray} {nL n : Nat} {G : zG} {pc np : Nat} {L : zL} {S : List Value} {w : ww}
def zopen (G : zG) (own : String) (cc : ByteArray) (nL n : Nat) (P : Prop) : Prop := ∀ (p : Program) (l : Launch) (e : Env) (R : Room) (s : State) (m : MethodId) (args : Array Value) (below : List Frame) (meth : Method) (c : Code) (φ : Nat → Nat) (cA : Nat → ClassId) (D : va_G) (A : Nat → Prop) (H0 : Heap) (cells slots : Nat) (Qm : State → Prop) (Ts : List Cond),
  G = zV p l e R s m args below meth c nL φ cA D A H0 cells slots Qm → CallFix p m c cc nL s args Ts own → (∀ w ∈ big, w ∈ Ts) → zK D cA s → (∀ q, H0.size ≤ q → A q) → n ≤ R.frames → 60 * n ≤ R.locals → cells ≤ R.cells → slots ≤ R.slots → P
theorem zE.elim {P : Prop} (h : zE own cc nL n G) (k : zopen G own cc nL n P) : P := by
  obtain ⟨p, l, e, R, s, m, args, below, meth, c, φ, cA, D, A, H0, cells, slots, Qm, Ts, h1, h2, h3, h4, h5, h6, h7, h8, h9⟩ := h
  exact k p l e R s m args below meth c φ cA D A H0 cells slots Qm Ts h1 h2 h3 h4 h5 h6 h7 h8 h9
theorem zr_iconst (h : zE own cc nL n G) {k : Int} (hd : zD cc pc (.iconst k) 1 np) {v : Int32} (hv : Int32.ofInt k = v) (kk : G np L (.int v :: S) w) : G pc L (S) w := by
  refine h.elim fun p l e R s m args below meth c φ cA D A H0 cells slots Qm Ts hG hC hB hK hA hn1 hn2 hn3 hn4 => ?_
  subst hG
  obtain ⟨hx, hb, hml, hown, hts⟩ := hC
  obtain ⟨hd, rfl⟩ := hd
  intro ls H locs hls hP hD hS
  exact lv_iconst hx hb hd hv (kk ls H locs hls hP hD hS)
theorem zr_bipush (h : zE own cc nL n G) {k : Int} (hd : zD cc pc (.bipush k) 2 np) {v : Int32} (hv : (Int8.ofInt k).toInt32 = v) (kk : G np L (.int v :: S) w) : G pc L (S) w := by
  refine h.elim fun p l e R s m args below meth c φ cA D A H0 cells slots Qm Ts hG hC hB hK hA hn1 hn2 hn3 hn4 => ?_
  subst hG
  obtain ⟨hx, hb, hml, hown, hts⟩ := hC
  obtain ⟨hd, rfl⟩ := hd
  intro ls H locs hls hP hD hS
  exact lv_bipush hx hb hd hv (kk ls H locs hls hP hD hS)
theorem zr_sipush (h : zE own cc nL n G) {k : Int} (hd : zD cc pc (.sipush k) 3 np) {v : Int32} (hv : (Int16.ofInt k).toInt32 = v) (kk : G np L (.int v :: S) w) : G pc L (S) w := by
  refine h.elim fun p l e R s m args below meth c φ cA D A H0 cells slots Qm Ts hG hC hB hK hA hn1 hn2 hn3 hn4 => ?_
  subst hG
  obtain ⟨hx, hb, hml, hown, hts⟩ := hC
  obtain ⟨hd, rfl⟩ := hd
  intro ls H locs hls hP hD hS
  exact lv_sipush hx hb hd hv (kk ls H locs hls hP hD hS)
theorem zr_lconst (h : zE own cc nL n G) {k : Fin 2} (hd : zD cc pc (.lconst k) 1 np) {v : Int64} (hv : Int64.ofNat (k : Nat) = v) (kk : G np L (.long v :: S) w) : G pc L (S) w := by
  refine h.elim fun p l e R s m args below meth c φ cA D A H0 cells slots Qm Ts hG hC hB hK hA hn1 hn2 hn3 hn4 => ?_
  subst hG
  obtain ⟨hx, hb, hml, hown, hts⟩ := hC
  obtain ⟨hd, rfl⟩ := hd
  intro ls H locs hls hP hD hS
  exact lv_lconst hx hb hd hv (kk ls H locs hls hP hD hS)
theorem zr_ldc (h : zE own cc nL n G) {k : Nat} (hd : zD cc pc (.ldc k) 2 np) {v : Int32} (hc : Jvm.Cond.constant own k v ∈ big) (kk : G np L (.int v :: S) w) : G pc L (S) w := by
  refine h.elim fun p l e R s m args below meth c φ cA D A H0 cells slots Qm Ts hG hC hB hK hA hn1 hn2 hn3 hn4 => ?_
  subst hG
  obtain ⟨hx, hb, hml, hown, hts⟩ := hC
  obtain ⟨hd, rfl⟩ := hd
  intro ls H locs hls hP hD hS
  exact lv_ldc hx hb hown (hts _ (hB _ hc)) hd (kk ls H locs hls hP hD hS)
theorem zr_ldcw (h : zE own cc nL n G) {k : Nat} (hd : zD cc pc (.ldc_w k) 3 np) {v : Int32} (hc : Jvm.Cond.constant own k v ∈ big) (kk : G np L (.int v :: S) w) : G pc L (S) w := by
  refine h.elim fun p l e R s m args below meth c φ cA D A H0 cells slots Qm Ts hG hC hB hK hA hn1 hn2 hn3 hn4 => ?_
  subst hG
  obtain ⟨hx, hb, hml, hown, hts⟩ := hC
  obtain ⟨hd, rfl⟩ := hd
  intro ls H locs hls hP hD hS
  exact lv_ldcw hx hb hown (hts _ (hB _ hc)) hd (kk ls H locs hls hP hD hS)
theorem zr_ldc2 (h : zE own cc nL n G) {k : Nat} (hd : zD cc pc (.ldc2_w k) 3 np) {v : Int64} (hc : Jvm.Cond.constantLong own k v ∈ big) (kk : G np L (.long v :: S) w) : G pc L (S) w := by
  refine h.elim fun p l e R s m args below meth c φ cA D A H0 cells slots Qm Ts hG hC hB hK hA hn1 hn2 hn3 hn4 => ?_
  subst hG
  obtain ⟨hx, hb, hml, hown, hts⟩ := hC
  obtain ⟨hd, rfl⟩ := hd
  intro ls H locs hls hP hD hS
  exact lv_ldc2 hx hb hown (hts _ (hB _ hc)) hd (kk ls H locs hls hP hD hS)
theorem zr_iload_n (h : zE own cc nL n G) {k : Fin 4} (hd : zD cc pc (.iload_n k) 1 np) {x : Int32} (hl : L[k.val]? = some (some (.int x))) (kk : G np L (.int x :: S) w) : G pc L (S) w := by
  refine h.elim fun p l e R s m args below meth c φ cA D A H0 cells slots Qm Ts hG hC hB hK hA hn1 hn2 hn3 hn4 => ?_
  subst hG
  obtain ⟨hx, hb, hml, hown, hts⟩ := hC
  obtain ⟨hd, rfl⟩ := hd
  intro ls H locs hls hP hD hS
  exact lv_iload_n hx hb hd rfl (hls.at hl) (kk ls H locs hls hP hD hS)
theorem zr_iload (h : zE own cc nL n G) {k : Nat} (hd : zD cc pc (.iload k) 2 np) {x : Int32} (hl : L[k]? = some (some (.int x))) (kk : G np L (.int x :: S) w) : G pc L (S) w := by
  refine h.elim fun p l e R s m args below meth c φ cA D A H0 cells slots Qm Ts hG hC hB hK hA hn1 hn2 hn3 hn4 => ?_
  subst hG
  obtain ⟨hx, hb, hml, hown, hts⟩ := hC
  obtain ⟨hd, rfl⟩ := hd
  intro ls H locs hls hP hD hS
  exact lv_iload hx hb hd (hls.at hl) (kk ls H locs hls hP hD hS)
theorem zr_lload_n (h : zE own cc nL n G) {k : Fin 4} (hd : zD cc pc (.lload_n k) 1 np) {x : Int64} (hl : L[k.val]? = some (some (.long x))) (kk : G np L (.long x :: S) w) : G pc L (S) w := by
  refine h.elim fun p l e R s m args below meth c φ cA D A H0 cells slots Qm Ts hG hC hB hK hA hn1 hn2 hn3 hn4 => ?_
  subst hG
  obtain ⟨hx, hb, hml, hown, hts⟩ := hC
  obtain ⟨hd, rfl⟩ := hd
  intro ls H locs hls hP hD hS
  exact lv_lload_n hx hb hd rfl (hls.at hl) (kk ls H locs hls hP hD hS)
theorem zr_lload (h : zE own cc nL n G) {k : Nat} (hd : zD cc pc (.lload k) 2 np) {x : Int64} (hl : L[k]? = some (some (.long x))) (kk : G np L (.long x :: S) w) : G pc L (S) w := by
  refine h.elim fun p l e R s m args below meth c φ cA D A H0 cells slots Qm Ts hG hC hB hK hA hn1 hn2 hn3 hn4 => ?_
  subst hG
  obtain ⟨hx, hb, hml, hown, hts⟩ := hC
  obtain ⟨hd, rfl⟩ := hd
  intro ls H locs hls hP hD hS
  exact lv_lload hx hb hd (hls.at hl) (kk ls H locs hls hP hD hS)
theorem zr_aload_n (h : zE own cc nL n G) {k : Fin 4} (hd : zD cc pc (.aload_n k) 1 np) {x : Nat} (hl : L[k.val]? = some (some (.ref x))) (kk : G np L (.ref x :: S) w) : G pc L (S) w := by
  refine h.elim fun p l e R s m args below meth c φ cA D A H0 cells slots Qm Ts hG hC hB hK hA hn1 hn2 hn3 hn4 => ?_
  subst hG
  obtain ⟨hx, hb, hml, hown, hts⟩ := hC
  obtain ⟨hd, rfl⟩ := hd
  intro ls H locs hls hP hD hS
  exact lv_aload_n hx hb hd rfl (hls.at hl) (kk ls H locs hls hP hD hS)
theorem zr_aload (h : zE own cc nL n G) {k : Nat} (hd : zD cc pc (.aload k) 2 np) {x : Nat} (hl : L[k]? = some (some (.ref x))) (kk : G np L (.ref x :: S) w) : G pc L (S) w := by
  refine h.elim fun p l e R s m args below meth c φ cA D A H0 cells slots Qm Ts hG hC hB hK hA hn1 hn2 hn3 hn4 => ?_
  subst hG
  obtain ⟨hx, hb, hml, hown, hts⟩ := hC
  obtain ⟨hd, rfl⟩ := hd
  intro ls H locs hls hP hD hS
  exact lv_aload hx hb hd (hls.at hl) (kk ls H locs hls hP hD hS)
theorem zr_istore_n (h : zE own cc nL n G) {k : Fin 4} (hd : zD cc pc (.istore_n k) 1 np) {x : Int32} (hi : k.val < nL) (hz : znl L = true) (kk : G np (L.set k.val (some (.int x))) S w) : G pc L (.int x :: S) w := by
  refine h.elim fun p l e R s m args below meth c φ cA D A H0 cells slots Qm Ts hG hC hB hK hA hn1 hn2 hn3 hn4 => ?_
  subst hG
  obtain ⟨hx, hb, hml, hown, hts⟩ := hC
  obtain ⟨hd, rfl⟩ := hd
  intro ls H locs hls hP hD hS
  exact lv_istore_n hx hb hd rfl hls hi rfl (fun ls1 h1 => kk ls1 H locs (zlok.set (v := .int x) hz h1) hP hD hS)
theorem zr_istore (h : zE own cc nL n G) {k : Nat} (hd : zD cc pc (.istore k) 2 np) {x : Int32} (hi : k < nL) (hz : znl L = true) (kk : G np (L.set k (some (.int x))) S w) : G pc L (.int x :: S) w := by
  refine h.elim fun p l e R s m args below meth c φ cA D A H0 cells slots Qm Ts hG hC hB hK hA hn1 hn2 hn3 hn4 => ?_
  subst hG
  obtain ⟨hx, hb, hml, hown, hts⟩ := hC
  obtain ⟨hd, rfl⟩ := hd
  intro ls H locs hls hP hD hS
  exact lv_istore hx hb hd hls hi rfl (fun ls1 h1 => kk ls1 H locs (zlok.set (v := .int x) hz h1) hP hD hS)
theorem zr_astore_n (h : zE own cc nL n G) {k : Fin 4} (hd : zD cc pc (.astore_n k) 1 np) {x : Nat} (hi : k.val < nL) (hz : znl L = true) (kk : G np (L.set k.val (some (.ref x))) S w) : G pc L (.ref x :: S) w := by
  refine h.elim fun p l e R s m args below meth c φ cA D A H0 cells slots Qm Ts hG hC hB hK hA hn1 hn2 hn3 hn4 => ?_
  subst hG
  obtain ⟨hx, hb, hml, hown, hts⟩ := hC
  obtain ⟨hd, rfl⟩ := hd
  intro ls H locs hls hP hD hS
  exact lv_astore_n hx hb hd rfl hls hi rfl (fun ls1 h1 => kk ls1 H locs (zlok.set (v := .ref x) hz h1) hP hD hS)
theorem zr_astore (h : zE own cc nL n G) {k : Nat} (hd : zD cc pc (.astore k) 2 np) {x : Nat} (hi : k < nL) (hz : znl L = true) (kk : G np (L.set k (some (.ref x))) S w) : G pc L (.ref x :: S) w := by
  refine h.elim fun p l e R s m args below meth c φ cA D A H0 cells slots Qm Ts hG hC hB hK hA hn1 hn2 hn3 hn4 => ?_
  subst hG
  obtain ⟨hx, hb, hml, hown, hts⟩ := hC
  obtain ⟨hd, rfl⟩ := hd
  intro ls H locs hls hP hD hS
  exact lv_astore hx hb hd hls hi rfl (fun ls1 h1 => kk ls1 H locs (zlok.set (v := .ref x) hz h1) hP hD hS)
theorem zr_iinc (h : zE own cc nL n G) {k : Nat} {i : Int} (hd : zD cc pc (.iinc k i) 3 np) {x : Int32} (hl : L[k]? = some (some (.int x))) {v : Int32} (hv : x + Int32.ofInt i = v) (hi : k < nL) (hz : znl L = true) (kk : G np (L.set k (some (.int v))) S w) : G pc L (S) w := by
  refine h.elim fun p l e R s m args below meth c φ cA D A H0 cells slots Qm Ts hG hC hB hK hA hn1 hn2 hn3 hn4 => ?_
  subst hG
  obtain ⟨hx, hb, hml, hown, hts⟩ := hC
  obtain ⟨hd, rfl⟩ := hd
  intro ls H locs hls hP hD hS
  obtain ⟨j, hj⟩ := List.getElem?_of_mem ((zas_mem (φ := φ) L 0 (k, .int x)).mpr ⟨k, .int x, hl, by simp [tv]⟩)
  exact lv_iinc hx hb hd hls (k := j) hj hv hi rfl (fun ls1 h1 => kk ls1 H locs (zlok.set (v := .int v) hz h1) hP hD hS)
theorem zr_mask (h : zE own cc nL n G) (ms : List Bool) (kk : G pc (zfm ms L) S w) : G pc L S w := by
  refine h.elim fun p l e R s m args below meth c φ cA D A H0 cells slots Qm Ts hG hC hB hK hA hn1 hn2 hn3 hn4 => ?_
  subst hG
  obtain ⟨hx, hb, hml, hown, hts⟩ := hC
  intro ls H locs hls hP hD hS
  exact kk ls H locs (zlok.sub hls (zfm_sub ms L)) hP hD hS
theorem zr_locals (h : zE own cc nL n G) {L2 : zL} (hs : ∀ (k : Nat) (v : Value), L2[k]? = some (some v) → L[k]? = some (some v)) (kk : G pc L2 S w) : G pc L S w := by
  refine h.elim fun p l e R s m args below meth c φ cA D A H0 cells slots Qm Ts hG hC hB hK hA hn1 hn2 hn3 hn4 => ?_
  subst hG
  obtain ⟨hx, hb, hml, hown, hts⟩ := hC
  intro ls H locs hls hP hD hS
  exact kk ls H locs (zlok.sub hls hs) hP hD hS
theorem zr_iadd (h : zE own cc nL n G) (hd : zD cc pc (.iadd) 1 np) {x y : Int32} (kk : G np L (.int (x + y) :: S) w) : G pc L (.int y :: .int x :: S) w := by
  refine h.elim fun p l e R s m args below meth c φ cA D A H0 cells slots Qm Ts hG hC hB hK hA hn1 hn2 hn3 hn4 => ?_
  subst hG
  obtain ⟨hx, hb, hml, hown, hts⟩ := hC
  obtain ⟨hd, rfl⟩ := hd
  intro ls H locs hls hP hD hS
  exact lv_iadd hx hb hd (kk ls H locs hls hP hD hS)
theorem zr_isub (h : zE own cc nL n G) (hd : zD cc pc (.isub) 1 np) {x y : Int32} (kk : G np L (.int (x - y) :: S) w) : G pc L (.int y :: .int x :: S) w := by
  refine h.elim fun p l e R s m args below meth c φ cA D A H0 cells slots Qm Ts hG hC hB hK hA hn1 hn2 hn3 hn4 => ?_
  subst hG
  obtain ⟨hx, hb, hml, hown, hts⟩ := hC
  obtain ⟨hd, rfl⟩ := hd
  intro ls H locs hls hP hD hS
  exact lv_isub hx hb hd (kk ls H locs hls hP hD hS)
theorem zr_imul (h : zE own cc nL n G) (hd : zD cc pc (.imul) 1 np) {x y : Int32} (kk : G np L (.int (x * y) :: S) w) : G pc L (.int y :: .int x :: S) w := by
  refine h.elim fun p l e R s m args below meth c φ cA D A H0 cells slots Qm Ts hG hC hB hK hA hn1 hn2 hn3 hn4 => ?_
  subst hG
  obtain ⟨hx, hb, hml, hown, hts⟩ := hC
  obtain ⟨hd, rfl⟩ := hd
  intro ls H locs hls hP hD hS
  exact lv_imul hx hb hd (kk ls H locs hls hP hD hS)
theorem zr_iand (h : zE own cc nL n G) (hd : zD cc pc (.iand) 1 np) {x y : Int32} (kk : G np L (.int (x &&& y) :: S) w) : G pc L (.int y :: .int x :: S) w := by
  refine h.elim fun p l e R s m args below meth c φ cA D A H0 cells slots Qm Ts hG hC hB hK hA hn1 hn2 hn3 hn4 => ?_
  subst hG
  obtain ⟨hx, hb, hml, hown, hts⟩ := hC
  obtain ⟨hd, rfl⟩ := hd
  intro ls H locs hls hP hD hS
  exact lv_iand hx hb hd (kk ls H locs hls hP hD hS)
theorem zr_ior (h : zE own cc nL n G) (hd : zD cc pc (.ior) 1 np) {x y : Int32} (kk : G np L (.int (x ||| y) :: S) w) : G pc L (.int y :: .int x :: S) w := by
  refine h.elim fun p l e R s m args below meth c φ cA D A H0 cells slots Qm Ts hG hC hB hK hA hn1 hn2 hn3 hn4 => ?_
  subst hG
  obtain ⟨hx, hb, hml, hown, hts⟩ := hC
  obtain ⟨hd, rfl⟩ := hd
  intro ls H locs hls hP hD hS
  exact lv_ior hx hb hd (kk ls H locs hls hP hD hS)
theorem zr_ixor (h : zE own cc nL n G) (hd : zD cc pc (.ixor) 1 np) {x y : Int32} (kk : G np L (.int (x ^^^ y) :: S) w) : G pc L (.int y :: .int x :: S) w := by
  refine h.elim fun p l e R s m args below meth c φ cA D A H0 cells slots Qm Ts hG hC hB hK hA hn1 hn2 hn3 hn4 => ?_
  subst hG
  obtain ⟨hx, hb, hml, hown, hts⟩ := hC
  obtain ⟨hd, rfl⟩ := hd
  intro ls H locs hls hP hD hS
  exact lv_ixor hx hb hd (kk ls H locs hls hP hD hS)
theorem zr_ishl (h : zE own cc nL n G) (hd : zD cc pc (.ishl) 1 np) {x y : Int32} (kk : G np L (.int (x <<< (y &&& 31)) :: S) w) : G pc L (.int y :: .int x :: S) w := by
  refine h.elim fun p l e R s m args below meth c φ cA D A H0 cells slots Qm Ts hG hC hB hK hA hn1 hn2 hn3 hn4 => ?_
  subst hG
  obtain ⟨hx, hb, hml, hown, hts⟩ := hC
  obtain ⟨hd, rfl⟩ := hd
  intro ls H locs hls hP hD hS
  exact lv_ishl hx hb hd (kk ls H locs hls hP hD hS)
theorem zr_ishr (h : zE own cc nL n G) (hd : zD cc pc (.ishr) 1 np) {x y : Int32} (kk : G np L (.int (x >>> (y &&& 31)) :: S) w) : G pc L (.int y :: .int x :: S) w := by
  refine h.elim fun p l e R s m args below meth c φ cA D A H0 cells slots Qm Ts hG hC hB hK hA hn1 hn2 hn3 hn4 => ?_
  subst hG
  obtain ⟨hx, hb, hml, hown, hts⟩ := hC
  obtain ⟨hd, rfl⟩ := hd
  intro ls H locs hls hP hD hS
  exact lv_ishr hx hb hd (kk ls H locs hls hP hD hS)
theorem zr_iushr (h : zE own cc nL n G) (hd : zD cc pc (.iushr) 1 np) {x y : Int32} (kk : G np L (.int ((x.toUInt32 >>> (y.toUInt32 &&& Int32.toUInt32 31)).toInt32) :: S) w) : G pc L (.int y :: .int x :: S) w := by
  refine h.elim fun p l e R s m args below meth c φ cA D A H0 cells slots Qm Ts hG hC hB hK hA hn1 hn2 hn3 hn4 => ?_
  subst hG
  obtain ⟨hx, hb, hml, hown, hts⟩ := hC
  obtain ⟨hd, rfl⟩ := hd
  intro ls H locs hls hP hD hS
  exact lv_iushr hx hb hd rfl (kk ls H locs hls hP hD hS)
theorem zr_idiv (h : zE own cc nL n G) (hd : zD cc pc (.idiv) 1 np) {x y : Int32} (hne : ¬ y = 0) (kk : G np L (.int (x / y) :: S) w) : G pc L (.int y :: .int x :: S) w := by
  refine h.elim fun p l e R s m args below meth c φ cA D A H0 cells slots Qm Ts hG hC hB hK hA hn1 hn2 hn3 hn4 => ?_
  subst hG
  obtain ⟨hx, hb, hml, hown, hts⟩ := hC
  obtain ⟨hd, rfl⟩ := hd
  intro ls H locs hls hP hD hS
  exact lv_idiv hx hb hd hne (kk ls H locs hls hP hD hS)
theorem zr_irem (h : zE own cc nL n G) (hd : zD cc pc (.irem) 1 np) {x y : Int32} (hne : ¬ y = 0) (kk : G np L (.int (x - x / y * y) :: S) w) : G pc L (.int y :: .int x :: S) w := by
  refine h.elim fun p l e R s m args below meth c φ cA D A H0 cells slots Qm Ts hG hC hB hK hA hn1 hn2 hn3 hn4 => ?_
  subst hG
  obtain ⟨hx, hb, hml, hown, hts⟩ := hC
  obtain ⟨hd, rfl⟩ := hd
  intro ls H locs hls hP hD hS
  exact lv_irem hx hb hd hne (kk ls H locs hls hP hD hS)
theorem zr_ineg (h : zE own cc nL n G) (hd : zD cc pc (.ineg) 1 np) {x : Int32} (kk : G np L (.int (-x) :: S) w) : G pc L (.int x :: S) w := by
  refine h.elim fun p l e R s m args below meth c φ cA D A H0 cells slots Qm Ts hG hC hB hK hA hn1 hn2 hn3 hn4 => ?_
  subst hG
  obtain ⟨hx, hb, hml, hown, hts⟩ := hC
  obtain ⟨hd, rfl⟩ := hd
  intro ls H locs hls hP hD hS
  exact lv_ineg hx hb hd (kk ls H locs hls hP hD hS)
theorem zr_i2l (h : zE own cc nL n G) (hd : zD cc pc (.i2l) 1 np) {x : Int32} (kk : G np L (.long x.toInt64 :: S) w) : G pc L (.int x :: S) w := by
  refine h.elim fun p l e R s m args below meth c φ cA D A H0 cells slots Qm Ts hG hC hB hK hA hn1 hn2 hn3 hn4 => ?_
  subst hG
  obtain ⟨hx, hb, hml, hown, hts⟩ := hC
  obtain ⟨hd, rfl⟩ := hd
  intro ls H locs hls hP hD hS
  exact lv_i2l hx hb hd rfl (kk ls H locs hls hP hD hS)
theorem zr_i2b (h : zE own cc nL n G) (hd : zD cc pc (.i2b) 1 np) {x : Int32} (kk : G np L (.int x.toInt8.toInt32 :: S) w) : G pc L (.int x :: S) w := by
  refine h.elim fun p l e R s m args below meth c φ cA D A H0 cells slots Qm Ts hG hC hB hK hA hn1 hn2 hn3 hn4 => ?_
  subst hG
  obtain ⟨hx, hb, hml, hown, hts⟩ := hC
  obtain ⟨hd, rfl⟩ := hd
  intro ls H locs hls hP hD hS
  exact lv_i2b hx hb hd rfl (kk ls H locs hls hP hD hS)
theorem zr_i2s (h : zE own cc nL n G) (hd : zD cc pc (.i2s) 1 np) {x : Int32} (kk : G np L (.int x.toInt16.toInt32 :: S) w) : G pc L (.int x :: S) w := by
  refine h.elim fun p l e R s m args below meth c φ cA D A H0 cells slots Qm Ts hG hC hB hK hA hn1 hn2 hn3 hn4 => ?_
  subst hG
  obtain ⟨hx, hb, hml, hown, hts⟩ := hC
  obtain ⟨hd, rfl⟩ := hd
  intro ls H locs hls hP hD hS
  exact lv_i2s hx hb hd rfl (kk ls H locs hls hP hD hS)
theorem zr_lcmp (h : zE own cc nL n G) (hd : zD cc pc (.lcmp) 1 np) {x y : Int64} (kk : G np L (.int (lg_cmp x y) :: S) w) : G pc L (.long y :: .long x :: S) w := by
  refine h.elim fun p l e R s m args below meth c φ cA D A H0 cells slots Qm Ts hG hC hB hK hA hn1 hn2 hn3 hn4 => ?_
  subst hG
  obtain ⟨hx, hb, hml, hown, hts⟩ := hC
  obtain ⟨hd, rfl⟩ := hd
  intro ls H locs hls hP hD hS
  exact W.lcmp hx hb hd (kk ls H locs hls hP hD hS)
theorem zr_dup (h : zE own cc nL n G) (hd : zD cc pc (.dup) 1 np) {v : Value} (hv : v.category = 1) (kk : G np L (v :: v :: S) w) : G pc L (v :: S) w := by
  refine h.elim fun p l e R s m args below meth c φ cA D A H0 cells slots Qm Ts hG hC hB hK hA hn1 hn2 hn3 hn4 => ?_
  subst hG
  obtain ⟨hx, hb, hml, hown, hts⟩ := hC
  obtain ⟨hd, rfl⟩ := hd
  intro ls H locs hls hP hD hS
  exact lv_dup hx hb hd (by rw [tv_cat]; exact hv) (kk ls H locs hls hP hD hS)
theorem zr_dup2 (h : zE own cc nL n G) (hd : zD cc pc (.dup2) 1 np) {v u : Value} (hv : v.category = 1) (hu : u.category = 1) (kk : G np L (v :: u :: v :: u :: S) w) : G pc L (v :: u :: S) w := by
  refine h.elim fun p l e R s m args below meth c φ cA D A H0 cells slots Qm Ts hG hC hB hK hA hn1 hn2 hn3 hn4 => ?_
  subst hG
  obtain ⟨hx, hb, hml, hown, hts⟩ := hC
  obtain ⟨hd, rfl⟩ := hd
  intro ls H locs hls hP hD hS
  exact lv_dup2_11 hx hb hd (by rw [tv_cat]; exact hv) (by rw [tv_cat]; exact hu) (kk ls H locs hls hP hD hS)
theorem zr_if_eq (h : zE own cc nL n G) {off : Int} (hd : zD cc pc (.ifCond .eq off) 3 np) {tgt : Nat} {x : Int32} (ht : (pc : Int) + off = (tgt : Int)) (kt : x = 0 → G tgt L S w) (kf : ¬ x = 0 → G np L S w) : G pc L (.int x :: S) w := by
  refine h.elim fun p l e R s m args below meth c φ cA D A H0 cells slots Qm Ts hG hC hB hK hA hn1 hn2 hn3 hn4 => ?_
  subst hG
  obtain ⟨hx, hb, hml, hown, hts⟩ := hC
  obtain ⟨hd, rfl⟩ := hd
  intro ls H locs hls hP hD hS
  exact lv_if_eq hx hb hd ht (fun q => kt q ls H locs hls hP hD hS) (fun q => kf q ls H locs hls hP hD hS)
theorem zr_icmp_eq (h : zE own cc nL n G) {off : Int} (hd : zD cc pc (.if_icmp .eq off) 3 np) {tgt : Nat} {x y : Int32} (ht : (pc : Int) + off = (tgt : Int)) (kt : x = y → G tgt L S w) (kf : ¬ x = y → G np L S w) : G pc L (.int y :: .int x :: S) w := by
  refine h.elim fun p l e R s m args below meth c φ cA D A H0 cells slots Qm Ts hG hC hB hK hA hn1 hn2 hn3 hn4 => ?_
  subst hG
  obtain ⟨hx, hb, hml, hown, hts⟩ := hC
  obtain ⟨hd, rfl⟩ := hd
  intro ls H locs hls hP hD hS
  exact lv_icmp_eq hx hb hd ht (fun q => kt q ls H locs hls hP hD hS) (fun q => kf q ls H locs hls hP hD hS)
theorem zr_if_ne (h : zE own cc nL n G) {off : Int} (hd : zD cc pc (.ifCond .ne off) 3 np) {tgt : Nat} {x : Int32} (ht : (pc : Int) + off = (tgt : Int)) (kt : ¬ x = 0 → G tgt L S w) (kf : x = 0 → G np L S w) : G pc L (.int x :: S) w := by
  refine h.elim fun p l e R s m args below meth c φ cA D A H0 cells slots Qm Ts hG hC hB hK hA hn1 hn2 hn3 hn4 => ?_
  subst hG
  obtain ⟨hx, hb, hml, hown, hts⟩ := hC
  obtain ⟨hd, rfl⟩ := hd
  intro ls H locs hls hP hD hS
  exact lv_if_ne hx hb hd ht (fun q => kt q ls H locs hls hP hD hS) (fun q => kf q ls H locs hls hP hD hS)
theorem zr_icmp_ne (h : zE own cc nL n G) {off : Int} (hd : zD cc pc (.if_icmp .ne off) 3 np) {tgt : Nat} {x y : Int32} (ht : (pc : Int) + off = (tgt : Int)) (kt : ¬ x = y → G tgt L S w) (kf : x = y → G np L S w) : G pc L (.int y :: .int x :: S) w := by
  refine h.elim fun p l e R s m args below meth c φ cA D A H0 cells slots Qm Ts hG hC hB hK hA hn1 hn2 hn3 hn4 => ?_
  subst hG
  obtain ⟨hx, hb, hml, hown, hts⟩ := hC
  obtain ⟨hd, rfl⟩ := hd
  intro ls H locs hls hP hD hS
  exact lv_icmp_ne hx hb hd ht (fun q => kt q ls H locs hls hP hD hS) (fun q => kf q ls H locs hls hP hD hS)
theorem zr_if_lt (h : zE own cc nL n G) {off : Int} (hd : zD cc pc (.ifCond .lt off) 3 np) {tgt : Nat} {x : Int32} (ht : (pc : Int) + off = (tgt : Int)) (kt : x < 0 → G tgt L S w) (kf : ¬ x < 0 → G np L S w) : G pc L (.int x :: S) w := by
  refine h.elim fun p l e R s m args below meth c φ cA D A H0 cells slots Qm Ts hG hC hB hK hA hn1 hn2 hn3 hn4 => ?_
  subst hG
  obtain ⟨hx, hb, hml, hown, hts⟩ := hC
  obtain ⟨hd, rfl⟩ := hd
  intro ls H locs hls hP hD hS
  exact lv_if_lt hx hb hd ht (fun q => kt q ls H locs hls hP hD hS) (fun q => kf q ls H locs hls hP hD hS)
theorem zr_icmp_lt (h : zE own cc nL n G) {off : Int} (hd : zD cc pc (.if_icmp .lt off) 3 np) {tgt : Nat} {x y : Int32} (ht : (pc : Int) + off = (tgt : Int)) (kt : x < y → G tgt L S w) (kf : ¬ x < y → G np L S w) : G pc L (.int y :: .int x :: S) w := by
  refine h.elim fun p l e R s m args below meth c φ cA D A H0 cells slots Qm Ts hG hC hB hK hA hn1 hn2 hn3 hn4 => ?_
  subst hG
  obtain ⟨hx, hb, hml, hown, hts⟩ := hC
  obtain ⟨hd, rfl⟩ := hd
  intro ls H locs hls hP hD hS
  exact lv_icmp_lt hx hb hd ht (fun q => kt q ls H locs hls hP hD hS) (fun q => kf q ls H locs hls hP hD hS)
theorem zr_if_ge (h : zE own cc nL n G) {off : Int} (hd : zD cc pc (.ifCond .ge off) 3 np) {tgt : Nat} {x : Int32} (ht : (pc : Int) + off = (tgt : Int)) (kt : 0 ≤ x → G tgt L S w) (kf : ¬ 0 ≤ x → G np L S w) : G pc L (.int x :: S) w := by
  refine h.elim fun p l e R s m args below meth c φ cA D A H0 cells slots Qm Ts hG hC hB hK hA hn1 hn2 hn3 hn4 => ?_
  subst hG
  obtain ⟨hx, hb, hml, hown, hts⟩ := hC
  obtain ⟨hd, rfl⟩ := hd
  intro ls H locs hls hP hD hS
  exact lv_if_ge hx hb hd ht (fun q => kt q ls H locs hls hP hD hS) (fun q => kf q ls H locs hls hP hD hS)
theorem zr_icmp_ge (h : zE own cc nL n G) {off : Int} (hd : zD cc pc (.if_icmp .ge off) 3 np) {tgt : Nat} {x y : Int32} (ht : (pc : Int) + off = (tgt : Int)) (kt : y ≤ x → G tgt L S w) (kf : ¬ y ≤ x → G np L S w) : G pc L (.int y :: .int x :: S) w := by
  refine h.elim fun p l e R s m args below meth c φ cA D A H0 cells slots Qm Ts hG hC hB hK hA hn1 hn2 hn3 hn4 => ?_
  subst hG
  obtain ⟨hx, hb, hml, hown, hts⟩ := hC
  obtain ⟨hd, rfl⟩ := hd
  intro ls H locs hls hP hD hS
  exact lv_icmp_ge hx hb hd ht (fun q => kt q ls H locs hls hP hD hS) (fun q => kf q ls H locs hls hP hD hS)
theorem zr_if_gt (h : zE own cc nL n G) {off : Int} (hd : zD cc pc (.ifCond .gt off) 3 np) {tgt : Nat} {x : Int32} (ht : (pc : Int) + off = (tgt : Int)) (kt : 0 < x → G tgt L S w) (kf : ¬ 0 < x → G np L S w) : G pc L (.int x :: S) w := by
  refine h.elim fun p l e R s m args below meth c φ cA D A H0 cells slots Qm Ts hG hC hB hK hA hn1 hn2 hn3 hn4 => ?_
  subst hG
  obtain ⟨hx, hb, hml, hown, hts⟩ := hC
  obtain ⟨hd, rfl⟩ := hd
  intro ls H locs hls hP hD hS
  exact lv_if_gt hx hb hd ht (fun q => kt q ls H locs hls hP hD hS) (fun q => kf q ls H locs hls hP hD hS)
theorem zr_icmp_gt (h : zE own cc nL n G) {off : Int} (hd : zD cc pc (.if_icmp .gt off) 3 np) {tgt : Nat} {x y : Int32} (ht : (pc : Int) + off = (tgt : Int)) (kt : y < x → G tgt L S w) (kf : ¬ y < x → G np L S w) : G pc L (.int y :: .int x :: S) w := by
  refine h.elim fun p l e R s m args below meth c φ cA D A H0 cells slots Qm Ts hG hC hB hK hA hn1 hn2 hn3 hn4 => ?_
  subst hG
  obtain ⟨hx, hb, hml, hown, hts⟩ := hC
  obtain ⟨hd, rfl⟩ := hd
  intro ls H locs hls hP hD hS
  exact lv_icmp_gt hx hb hd ht (fun q => kt q ls H locs hls hP hD hS) (fun q => kf q ls H locs hls hP hD hS)
theorem zr_if_le (h : zE own cc nL n G) {off : Int} (hd : zD cc pc (.ifCond .le off) 3 np) {tgt : Nat} {x : Int32} (ht : (pc : Int) + off = (tgt : Int)) (kt : x ≤ 0 → G tgt L S w) (kf : ¬ x ≤ 0 → G np L S w) : G pc L (.int x :: S) w := by
  refine h.elim fun p l e R s m args below meth c φ cA D A H0 cells slots Qm Ts hG hC hB hK hA hn1 hn2 hn3 hn4 => ?_
  subst hG
  obtain ⟨hx, hb, hml, hown, hts⟩ := hC
  obtain ⟨hd, rfl⟩ := hd
  intro ls H locs hls hP hD hS
  exact lv_if_le hx hb hd ht (fun q => kt q ls H locs hls hP hD hS) (fun q => kf q ls H locs hls hP hD hS)
theorem zr_icmp_le (h : zE own cc nL n G) {off : Int} (hd : zD cc pc (.if_icmp .le off) 3 np) {tgt : Nat} {x y : Int32} (ht : (pc : Int) + off = (tgt : Int)) (kt : x ≤ y → G tgt L S w) (kf : ¬ x ≤ y → G np L S w) : G pc L (.int y :: .int x :: S) w := by
  refine h.elim fun p l e R s m args below meth c φ cA D A H0 cells slots Qm Ts hG hC hB hK hA hn1 hn2 hn3 hn4 => ?_
  subst hG
  obtain ⟨hx, hb, hml, hown, hts⟩ := hC
  obtain ⟨hd, rfl⟩ := hd
  intro ls H locs hls hP hD hS
  exact lv_icmp_le hx hb hd ht (fun q => kt q ls H locs hls hP hD hS) (fun q => kf q ls H locs hls hP hD hS)
theorem zr_goto (h : zE own cc nL n G) {off : Int} (hd : zD cc pc (.goto off) 3 np) {tgt : Nat} (ht : (pc : Int) + off = (tgt : Int)) (kk : G tgt L S w) : G pc L S w := by
  refine h.elim fun p l e R s m args below meth c φ cA D A H0 cells slots Qm Ts hG hC hB hK hA hn1 hn2 hn3 hn4 => ?_
  subst hG
  obtain ⟨hx, hb, hml, hown, hts⟩ := hC
  obtain ⟨hd, rfl⟩ := hd
  intro ls H locs hls hP hD hS
  exact lv_goto hx hb hd ht (kk ls H locs hls hP hD hS)
theorem zr_lookup (h : zE own cc nL n G) {dflt : Int} {ps : Array (Int × Int)} {len : Nat} {x : Int32} {off : Int} {tgt : Nat} (hd : zD cc pc (.lookupswitch dflt ps) len np) (hp : (ps.toList.zip (ps.toList.drop 1)).all (fun (a, next) => a.1 < next.1) = true) (ho : Op.lookupswitch.offset ps.toList dflt x.toInt = off) (ht : (pc : Int) + off = (tgt : Int)) (kk : G tgt L S w) : G pc L (.int x :: S) w := by
  refine h.elim fun p l e R s m args below meth c φ cA D A H0 cells slots Qm Ts hG hC hB hK hA hn1 hn2 hn3 hn4 => ?_
  subst hG
  obtain ⟨hx, hb, hml, hown, hts⟩ := hC
  obtain ⟨hd, rfl⟩ := hd
  intro ls H locs hls hP hD hS
  exact lv_lookup hx hb hd hp ho ht (kk ls H locs hls hP hD hS)
theorem zr_tableOut (h : zE own cc nL n G) {dflt lo hi : Int} {offs : Array Int} {len : Nat} {x : Int32} {tgt : Nat} (hd : zD cc pc (.tableswitch dflt lo hi offs) len np) (hx1 : x.toInt < lo ∨ hi < x.toInt) (ht : (pc : Int) + dflt = (tgt : Int)) (kk : G tgt L S w) : G pc L (.int x :: S) w := by
  refine h.elim fun p l e R s m args below meth c φ cA D A H0 cells slots Qm Ts hG hC hB hK hA hn1 hn2 hn3 hn4 => ?_
  subst hG
  obtain ⟨hx, hb, hml, hown, hts⟩ := hC
  obtain ⟨hd, rfl⟩ := hd
  intro ls H locs hls hP hD hS
  exact lv_tableOut hx hb hd hx1 ht (kk ls H locs hls hP hD hS)
theorem zr_tableIn (h : zE own cc nL n G) {dflt lo hi : Int} {offs : Array Int} {len : Nat} {x : Int32} {off : Int} {tgt : Nat} (hd : zD cc pc (.tableswitch dflt lo hi offs) len np) (h1 : ¬ x.toInt < lo) (h2 : ¬ hi < x.toInt) (ho : offs[(x.toInt - lo).toNat]? = some off) (ht : (pc : Int) + off = (tgt : Int)) (kk : G tgt L S w) : G pc L (.int x :: S) w := by
  refine h.elim fun p l e R s m args below meth c φ cA D A H0 cells slots Qm Ts hG hC hB hK hA hn1 hn2 hn3 hn4 => ?_
  subst hG
  obtain ⟨hx, hb, hml, hown, hts⟩ := hC
  obtain ⟨hd, rfl⟩ := hd
  intro ls H locs hls hP hD hS
  exact lv_tableIn hx hb hd h1 h2 ho ht (kk ls H locs hls hP hD hS)
def zF (own : String) (idx ci k : Nat) : Prop := ∃ (C : String) (T : u_T) (N : Nat) (ty0 : Nat → FieldType), vwCl[ci]? = some (C, T, N) ∧ k < N ∧ (∀ w ∈ u_ws C T N, w ∈ big) ∧ (∀ k, k < N → parseFieldDescriptor (T k).2.2.1 = some (ty0 k)) ∧ (∀ a, a < N → ∀ b, b < N → a ≠ b → (T a).2.1 ≠ (T b).2.1) ∧
  (Cond.fieldLink own idx (T k).1 (T k).2.1 (T k).2.2.1 ∈ big ∨ ∃ host, Cond.fieldLinkNest own idx (T k).1 (T k).2.1 (T k).2.2.1 host ∈ nests)
def zFp (own : String) (idx ci k : Nat) (ty : FieldType) : Prop := zF own idx ci k ∧ ∃ q : vw_C, vwCl[ci]? = some q ∧ (q.2.1 k).2.2.2 = false ∧ parseFieldDescriptor (q.2.1 k).2.2.1 = some ty
theorem zr_getI (h : zE own cc nL n G) {idx o ci k : Nat} {fl : List (Option Nat)} (hd : zD cc pc (.getfield idx) 3 np) (hf : zF own idx ci k) (hs : zshapes[o]? = some (zob ci fl)) (hk : fl[k]? = some (none)) (kk : G np L (.int (w o k) :: S) w) : G pc L (.ref o :: S) w := by
  refine h.elim fun p l e R s m args below meth c φ cA D A H0 cells slots Qm Ts hG hC hB hK hA hn1 hn2 hn3 hn4 => ?_
  subst hG
  obtain ⟨hx, hb, hml, hown, hts⟩ := hC
  obtain ⟨hd, rfl⟩ := hd
  intro ls H locs hls hP hD hS
  obtain ⟨C, T, N, ty0, hc, hkN, hin, hty, hnm, hl⟩ := hf
  have hv : (zfs φ w o 0 fl)[k]? = some (tv φ (.int (w o k))) := by rw [zfs_get, hk]; simp [zfv, tv]
  rcases hl with hl | ⟨host, hl⟩
  · exact va_get hx hb hts (fun w hw => hB w (hin w hw)) hown hK.1 hP o (zWS_get hs) hc k hkN (hts _ (hB _ hl)) (fun _ q => q) hv hd (kk ls H locs hls hP hD hS)
  · exact va_getN hx hb hts (fun w hw => hB w (hin w hw)) hown hK.1 hP o (zWS_get hs) hc k hkN (va_Nw.use rfl (hK.2 _ hl)) (fun _ q => q) hv hd (kk ls H locs hls hP hD hS)
theorem zr_getR (h : zE own cc nL n G) {idx o ci k : Nat} {fl : List (Option Nat)} {r : Nat} (hd : zD cc pc (.getfield idx) 3 np) (hf : zF own idx ci k) (hs : zshapes[o]? = some (zob ci fl)) (hk : fl[k]? = some (some r)) (kk : G np L (.ref r :: S) w) : G pc L (.ref o :: S) w := by
  refine h.elim fun p l e R s m args below meth c φ cA D A H0 cells slots Qm Ts hG hC hB hK hA hn1 hn2 hn3 hn4 => ?_
  subst hG
  obtain ⟨hx, hb, hml, hown, hts⟩ := hC
  obtain ⟨hd, rfl⟩ := hd
  intro ls H locs hls hP hD hS
  obtain ⟨C, T, N, ty0, hc, hkN, hin, hty, hnm, hl⟩ := hf
  have hv : (zfs φ w o 0 fl)[k]? = some (tv φ (.ref r)) := by rw [zfs_get, hk]; simp [zfv, tv]
  rcases hl with hl | ⟨host, hl⟩
  · exact va_get hx hb hts (fun w hw => hB w (hin w hw)) hown hK.1 hP o (zWS_get hs) hc k hkN (hts _ (hB _ hl)) (fun _ q => q) hv hd (kk ls H locs hls hP hD hS)
  · exact va_getN hx hb hts (fun w hw => hB w (hin w hw)) hown hK.1 hP o (zWS_get hs) hc k hkN (va_Nw.use rfl (hK.2 _ hl)) (fun _ q => q) hv hd (kk ls H locs hls hP hD hS)
theorem zr_put (h : zE own cc nL n G) {idx o ci k : Nat} {fl : List (Option Nat)} {ty : FieldType} {v : Int32} (hd : zD cc pc (.putfield idx) 3 np) (hf : zFp own idx ci k ty) (hs : zshapes[o]? = some (zob ci fl)) (hk : fl[k]? = some none) (hn : narrow ty (.int v) = .int v) (hfit : fits ty (.int v) = true) (kk : G np L S (wu w o k v)) : G pc L (.int v :: .ref o :: S) w := by
  refine h.elim fun p l e R s m args below meth c φ cA D A H0 cells slots Qm Ts hG hC hB hK hA hn1 hn2 hn3 hn4 => ?_
  subst hG
  obtain ⟨hx, hb, hml, hown, hts⟩ := hC
  obtain ⟨hd, rfl⟩ := hd
  intro ls H locs hls hP hD hS
  obtain ⟨⟨C, T, N, ty0, hc, hkN, hin, hty, hnm, hl⟩, q, hq, hfin, hdesc⟩ := hf
  cases hc.symm.trans hq
  have hkl : k < (zfs φ w o 0 fl).length := by rw [zfs_len]; exact (List.getElem?_eq_some_iff.mp hk).1
  have key : (zWS φ cA w).set o (φ o, .inr (ci, (zfs φ w o 0 fl).set k (.int v))) = zWS φ cA (wu w o k v) := by
    rw [zfs_set φ w o fl k v hk]
    exact zWS_set (φ := φ) (cA := cA) (w := w) (w' := wu w o k v) (sh := zob ci fl) hs (fun p hp => wu_off hp)
  rcases hl with hl | ⟨host, hl⟩
  · exact va_put hx hb hts (fun w hw => hB w (hin w hw)) ty0 hty hnm hown hK.1 hP hD hS o (zWS_get hs) hc k hkN (hts _ (hB _ hl)) (fun _ q => q) hfin hdesc hn hfit hkl hd (fun H1 locs1 hP1 hD1 hS1 => kk ls H1 locs1 hls (key ▸ hP1) (key ▸ hD1) hS1)
  · exact va_putN hx hb hts (fun w hw => hB w (hin w hw)) ty0 hty hnm hown hK.1 hP hD hS o (zWS_get hs) hc k hkN (va_Nw.use rfl (hK.2 _ hl)) (fun _ q => q) hfin hdesc hn hfit hkl hd (fun H1 locs1 hP1 hD1 hS1 => kk ls H1 locs1 hls (key ▸ hP1) (key ▸ hD1) hS1)
theorem zr_iald (h : zE own cc nL n G) {o N : Nat} {i : Int32} (hd : zD cc pc .iaload 1 np) (hs : zshapes[o]? = some (zia N)) (hin : vp_in i N) (kk : G np L (.int (w o i.toNatClampNeg) :: S) w) : G pc L (.int i :: .ref o :: S) w := by
  refine h.elim fun p l e R s m args below meth c φ cA D A H0 cells slots Qm Ts hG hC hB hK hA hn1 hn2 hn3 hn4 => ?_
  subst hG
  obtain ⟨hx, hb, hml, hown, hts⟩ := hC
  obtain ⟨hd, rfl⟩ := hd
  intro ls H locs hls hP hD hS
  exact va_iald hx hb hK.1 hP o 0 (zWS_get hs) rfl hin hd (kk ls H locs hls hP hD hS)
theorem zr_iast (h : zE own cc nL n G) {o N : Nat} {i x : Int32} (hd : zD cc pc .iastore 1 np) (hs : zshapes[o]? = some (zia N)) (hin : vp_in i N) (kk : G np L S (wu w o i.toNatClampNeg x)) : G pc L (.int x :: .int i :: .ref o :: S) w := by
  refine h.elim fun p l e R s m args below meth c φ cA D A H0 cells slots Qm Ts hG hC hB hK hA hn1 hn2 hn3 hn4 => ?_
  subst hG
  obtain ⟨hx, hb, hml, hown, hts⟩ := hC
  obtain ⟨hd, rfl⟩ := hd
  intro ls H locs hls hP hD hS
  have key : (zWS φ cA w).set o (φ o, .inl (cA 0, N, .inl (upd (w o) i.toNatClampNeg x))) = zWS φ cA (wu w o i.toNatClampNeg x) := by
    have e : upd (w o) i.toNatClampNeg x = wu w o i.toNatClampNeg x o := by funext b; simp [upd, wu]
    rw [e]
    exact zWS_set (φ := φ) (cA := cA) (w := w) (w' := wu w o i.toNatClampNeg x) (sh := zia N) hs (fun p hp => wu_off hp)
  exact va_iast hx hb hK.1 hP hD hS o 0 (zWS_get hs) rfl hin hd (fun H1 locs1 hP1 hD1 hS1 => kk ls H1 locs1 hls (key ▸ hP1) (key ▸ hD1) hS1)
theorem zr_aald (h : zE own cc nL n G) {o t r : Nat} {l0 : List Nat} {i : Int32} (hd : zD cc pc .aaload 1 np) (hs : zshapes[o]? = some (zra t l0)) (ht : t = 1 ∨ t = 2) (hin : vp_in i l0.length) (hr : l0[i.toNatClampNeg]? = some r) (kk : G np L (.ref r :: S) w) : G pc L (.int i :: .ref o :: S) w := by
  refine h.elim fun p l e R s m args below meth c φ cA D A H0 cells slots Qm Ts hG hC hB hK hA hn1 hn2 hn3 hn4 => ?_
  subst hG
  obtain ⟨hx, hb, hml, hown, hts⟩ := hC
  obtain ⟨hd, rfl⟩ := hd
  intro ls H locs hls hP hD hS
  have kk2 := kk ls H locs hls hP hD hS
  have e : va_rf ((fun k => (l0[k]?).map φ) i.toNatClampNeg) = tv φ (.ref r) := by simp [hr, va_rf, tv]
  rcases ht with rfl | rfl
  · exact va_aldq (f := fun k => (l0[k]?).map φ) hx hb hK.1 hP o 1 (zWS_get hs) rfl hin hd (by rw [e]; exact kk2)
  · exact va_aldq (f := fun k => (l0[k]?).map φ) hx hb hK.1 hP o 2 (zWS_get hs) rfl hin hd (by rw [e]; exact kk2)
end ZRows
