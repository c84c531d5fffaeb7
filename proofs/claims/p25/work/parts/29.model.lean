
/-! the reference's world: 0 this, 1 2 keepers (list, data), 3 4 secrets, 5 6 entries, 7 inverses, 8 points, 9 numbers; 100+k keepers, 200+i secrets, 300+i shares, 400+i epochs, 500+e entries -/
def mcell (d : zD) (B : Nat → Nat) (ec nk ns ne : Nat) (r : Nat) (v : Nat → Int32) : va_E :=
  if r < 10 then (match r with
    | 0 => zob 12 [.int (v 0), .int (v 1), .int (v 2), .int (v 3), .int (v 4), .int (v 5), .ref (B 1), .ref (B 3), .ref (B 5), .ref (B 7), .ref (B 8), .ref (B 9)]
    | 1 => zob 2 [.int (v 0), .ref (if nk = 0 then d.2.2 else B 2), .int (nI nk)]
    | 2 => zO d 10 (fun j => if j < nk then some (B (100 + j)) else none)
    | 3 => zob 2 [.int (v 0), .ref (if ns = 0 then d.2.2 else B 4), .int (nI ns)]
    | 4 => zO d 10 (fun j => if j < ns then some (B (200 + j)) else none)
    | 5 => zob 2 [.int (v 0), .ref (if ne = 0 then d.2.2 else B 6), .int (nI ne)]
    | 6 => zO d ec (fun j => if j < ne then some (B (500 + j)) else none)
    | 7 => zI d 97 v
    | _ => zI d 8 v)
  else if r < 200 then zob 10 [.int (v 0), .int (v 1), .int (v 2), .int (v 3), .int (v 4)]
  else if r < 300 then zob 11 [.int (v 0), .int (v 1), .int (v 2), .int (v 3), .int (v 4), .int (v 5), .ref (B (r + 100)), .ref (B (r + 200))]
  else if r < 500 then zI d 8 v
  else zI d 4 v
def mlive (nk ns ne r : Nat) : Prop := (r < 10 ∧ (r = 2 → 0 < nk) ∧ (r = 4 → 0 < ns) ∧ (r = 6 → 0 < ne)) ∨ (100 ≤ r ∧ r < 100 + nk) ∨ (200 ≤ r ∧ r < 200 + ns) ∨ (300 ≤ r ∧ r < 300 + ns) ∨ (400 ≤ r ∧ r < 400 + ns) ∨ (500 ≤ r ∧ r < 500 + ne)
def mcap (ec : Nat) : Prop := ec = 10 ∨ ec = 15 ∨ ec = 22 ∨ ec = 33 ∨ ec = 49 ∨ ec = 73
def mInv (V : Nat → Nat → Int32) (nk ns ne ec : Nat) : Prop := nk ≤ 8 ∧ ns ≤ 6 ∧ ne ≤ 64 ∧ mcap ec ∧ ne ≤ ec ∧ (∀ i, i < ns → ∃ t, 1 ≤ t ∧ t ≤ 4 ∧ V (200 + i) 0 = nI t) ∧ (∀ i, i < ns → ∀ j, nk ≤ j → j < 8 → V (300 + i) j = -1) ∧ (∀ i, i < ns → ∃ b, V (200 + i) 5 = zb b) ∧ (∀ k, k < nk → ∃ b, V (100 + k) 4 = zb b)
def zM (d : zD) (B : Nat → Nat) (V : Nat → Nat → Int32) (nk ns ne ec : Nat) (G : zG) : Prop := zW B (mlive nk ns ne) (mcell d B ec nk ns ne) V G ∧ mInv V nk ns ne ec
abbrev mFr (B : Nat → Nat) (nk ns ne : Nat) (G G' : zG) : Prop := zFr B (mlive nk ns ne) G G'
section ZM
variable {d : zD} {B : Nat → Nat} {V : Nat → Nat → Int32} {nk ns ne ec : Nat} {G G1 : zG}
theorem ml_s (r : Nat) (h : r < 10 := by decide) (h2 : r ≠ 2 := by decide) (h4 : r ≠ 4 := by decide) (h6 : r ≠ 6 := by decide) : mlive nk ns ne r := Or.inl ⟨h, fun e => absurd e h2, fun e => absurd e h4, fun e => absurd e h6⟩
theorem ml_k {k : Nat} (h : k < nk) : mlive nk ns ne (100 + k) := by unfold mlive; omega
theorem ml_i {i : Nat} (h : i < ns) : mlive nk ns ne (200 + i) := by unfold mlive; omega
theorem ml_sh {i : Nat} (h : i < ns) : mlive nk ns ne (300 + i) := by unfold mlive; omega
theorem ml_ep {i : Nat} (h : i < ns) : mlive nk ns ne (400 + i) := by unfold mlive; omega
theorem ml_e {i : Nat} (h : i < ne) : mlive nk ns ne (500 + i) := by unfold mlive; omega
theorem mcell_k {k : Nat} (h : k < 8) (v : Nat → Int32) : mcell d B ec nk ns ne (100 + k) v = zob 10 [.int (v 0), .int (v 1), .int (v 2), .int (v 3), .int (v 4)] := by
  unfold mcell
  rw [if_neg (by omega), if_pos (by omega)]
theorem mcell_i {i : Nat} (h : i < 6) (v : Nat → Int32) : mcell d B ec nk ns ne (200 + i) v = zob 11 [.int (v 0), .int (v 1), .int (v 2), .int (v 3), .int (v 4), .int (v 5), .ref (B (300 + i)), .ref (B (400 + i))] := by
  unfold mcell
  rw [if_neg (by omega), if_neg (by omega), if_pos (by omega), show 200 + i + 100 = 300 + i by omega, show 200 + i + 200 = 400 + i by omega]
theorem mcell_a {r : Nat} (h : 300 ≤ r) (h2 : r < 500) (v : Nat → Int32) : mcell d B ec nk ns ne r v = zI d 8 v := by
  unfold mcell
  rw [if_neg (by omega), if_neg (by omega), if_neg (by omega), if_pos (by omega)]
theorem mcell_e {r : Nat} (h : 500 ≤ r) (v : Nat → Int32) : mcell d B ec nk ns ne r v = zI d 4 v := by
  unfold mcell
  rw [if_neg (by omega), if_neg (by omega), if_neg (by omega), if_neg (by omega)]
theorem zM.mo (h : zM d B V nk ns ne ec G) : G (B 0) = some (zob 12 [.int (V 0 0), .int (V 0 1), .int (V 0 2), .int (V 0 3), .int (V 0 4), .int (V 0 5), .ref (B 1), .ref (B 3), .ref (B 5), .ref (B 7), .ref (B 8), .ref (B 9)]) := h.1.2 0 (ml_s 0)
theorem zM.kl (h : zM d B V nk ns ne ec G) : G (B 1) = some (zob 2 [.int (V 1 0), .ref (if nk = 0 then d.2.2 else B 2), .int (nI nk)]) := h.1.2 1 (ml_s 1)
theorem zM.sl (h : zM d B V nk ns ne ec G) : G (B 3) = some (zob 2 [.int (V 3 0), .ref (if ns = 0 then d.2.2 else B 4), .int (nI ns)]) := h.1.2 3 (ml_s 3)
theorem zM.el (h : zM d B V nk ns ne ec G) : G (B 5) = some (zob 2 [.int (V 5 0), .ref (if ne = 0 then d.2.2 else B 6), .int (nI ne)]) := h.1.2 5 (ml_s 5)
theorem zM.kA (h : zM d B V nk ns ne ec G) {k : Nat} (hk : k < nk) : zAL d (B 1) (B 2) 10 nk (V 1 0) (fun j => if j < nk then some (B (100 + j)) else none) G := by
  refine ⟨?_, h.1.2 2 (by unfold mlive; omega), by have := h.2.1; omega, by decide⟩
  have := h.kl
  rw [if_neg (show ¬ nk = 0 by omega)] at this
  exact this
theorem zM.sA (h : zM d B V nk ns ne ec G) {i : Nat} (hi : i < ns) : zAL d (B 3) (B 4) 10 ns (V 3 0) (fun j => if j < ns then some (B (200 + j)) else none) G := by
  refine ⟨?_, h.1.2 4 (by unfold mlive; omega), by have := h.2.2.1; omega, by decide⟩
  have := h.sl
  rw [if_neg (show ¬ ns = 0 by omega)] at this
  exact this
theorem zM.eA (h : zM d B V nk ns ne ec G) {i : Nat} (hi : i < ne) : zAL d (B 5) (B 6) ec ne (V 5 0) (fun j => if j < ne then some (B (500 + j)) else none) G := by
  refine ⟨?_, h.1.2 6 (by unfold mlive; omega), h.2.2.2.2.2.1, by have := h.2.2.2.2.1; unfold mcap at this; omega⟩
  have := h.el
  rw [if_neg (show ¬ ne = 0 by omega)] at this
  exact this
theorem zM.ke (h : zM d B V nk ns ne ec G) {k : Nat} (hk : k < nk) : G (B (100 + k)) = some (zob 10 [.int (V (100 + k) 0), .int (V (100 + k) 1), .int (V (100 + k) 2), .int (V (100 + k) 3), .int (V (100 + k) 4)]) :=
  (h.1.2 _ (ml_k hk)).trans (congrArg some (mcell_k (by have := h.2.1; omega) _))
/-- a secret of the reference: its three cells -/
def zMs (d : zD) (h hs he : Nat) (t z dt epo fr bl : Int32) (sh ep : Nat → Int32) (G : zG) : Prop := G h = some (zob 11 [.int t, .int z, .int dt, .int epo, .int fr, .int bl, .ref hs, .ref he]) ∧ G hs = some (zI d 8 sh) ∧ G he = some (zI d 8 ep) ∧ hs ≠ he
theorem zM.se (h : zM d B V nk ns ne ec G) {i : Nat} (hi : i < ns) : zMs d (B (200 + i)) (B (300 + i)) (B (400 + i)) (V (200 + i) 0) (V (200 + i) 1) (V (200 + i) 2) (V (200 + i) 3) (V (200 + i) 4) (V (200 + i) 5) (V (300 + i)) (V (400 + i)) G :=
  ⟨(h.1.2 _ (ml_i hi)).trans (congrArg some (mcell_i (by have := h.2.2.1; omega) _)), (h.1.2 _ (ml_sh hi)).trans (congrArg some (mcell_a (by omega) (by have := h.2.2.1; omega) _)), (h.1.2 _ (ml_ep hi)).trans (congrArg some (mcell_a (by omega) (by have := h.2.2.1; omega) _)), fun e => by have := h.1.1 _ _ (ml_sh hi) (ml_ep hi) e; omega⟩
theorem zM.en (h : zM d B V nk ns ne ec G) {i : Nat} (hi : i < ne) : G (B (500 + i)) = some (zI d 4 (V (500 + i))) := (h.1.2 _ (ml_e hi)).trans (congrArg some (mcell_e (by omega) _))
theorem zM.iv (h : zM d B V nk ns ne ec G) : G (B 7) = some (zI d 97 (V 7)) := h.1.2 7 (ml_s 7)
theorem zM.pt (h : zM d B V nk ns ne ec G) : G (B 8) = some (zI d 8 (V 8)) := h.1.2 8 (ml_s 8)
theorem zM.nb (h : zM d B V nk ns ne ec G) : G (B 9) = some (zI d 8 (V 9)) := h.1.2 9 (ml_s 9)
theorem zM.tn (h : zM d B V nk ns ne ec G) {i : Nat} (hi : i < ns) : ∃ t, 1 ≤ t ∧ t ≤ 4 ∧ V (200 + i) 0 = nI t := h.2.2.2.2.2.2.1 i hi
theorem zM.off (h : zM d B V nk ns ne ec G) {i j : Nat} (hi : i < ns) (hj : nk ≤ j) (h8 : j < 8) : V (300 + i) j = -1 := h.2.2.2.2.2.2.2.1 i hi j hj h8
theorem zM.ta (h : zM d B V nk ns ne ec G) {i : Nat} (hi : i < ns) : ∃ b, V (200 + i) 5 = zb b := h.2.2.2.2.2.2.2.2.1 i hi
theorem zM.no (h : zM d B V nk ns ne ec G) {k : Nat} (hk : k < nk) : ∃ b, V (100 + k) 4 = zb b := h.2.2.2.2.2.2.2.2.2 k hk
theorem zM.nq (h : zM d B V nk ns ne ec G) {r q : Nat} (hr : mlive nk ns ne r) (hq : mlive nk ns ne q) (hn : r ≠ q) : B r ≠ B q := fun e => hn (h.1.1 r q hr hq e)
theorem zM.put (h : zM d B V nk ns ne ec G) {r a : Nat} {w : va_E} (hr : mlive nk ns ne r) (v : Nat → Int32) (ha : a = B r) (hw : w = mcell d B ec nk ns ne r v) (hi : mInv (rset V r v) nk ns ne ec) : zM d B (rset V r v) nk ns ne ec (zu G a w) := ⟨h.1.put' hr v ha hw, hi⟩
theorem zM.frput {r a : Nat} {w : va_E} (hr : mlive nk ns ne r) (ha : a = B r) : mFr B nk ns ne G (zu G a w) := by
  subst ha
  exact zFr.put hr
theorem mInv.off {r : Nat} {v : Nat → Int32} (h : mInv V nk ns ne ec) (h3 : r < 100 ∨ 400 ≤ r) : mInv (rset V r v) nk ns ne ec := by
  obtain ⟨a, b, c, e, f, g, i, o1, o2⟩ := h
  have hn : ns ≤ 6 := b
  exact ⟨a, b, c, e, f, fun k hk => by rw [rset_n (by omega)]; exact g k hk, fun k hk j h1 h2 => by rw [rset_n (by omega)]; exact i k hk j h1 h2, fun k hk => by rw [rset_n (by omega)]; exact o1 k hk, fun k hk => by rw [rset_n (by omega)]; exact o2 k hk⟩
theorem mInv.sec {i : Nat} {v : Nat → Int32} (h : mInv V nk ns ne ec) (hv : v 0 = V (200 + i) 0) (h5 : ∃ b, v 5 = zb b) (hi : i < 6) : mInv (rset V (200 + i) v) nk ns ne ec := by
  obtain ⟨a, b, c, e, f, g, o, o1, o2⟩ := h
  refine ⟨a, b, c, e, f, fun k hk => ?_, fun k hk j h1 h2 => by rw [rset_n (by omega)]; exact o k hk j h1 h2, fun k hk => ?_, fun k hk => by rw [rset_n (by omega)]; exact o2 k hk⟩
  · by_cases ek : k = i
    · subst ek; rw [rset_s, hv]; exact g k hk
    · rw [rset_n (by omega)]; exact g k hk
  · by_cases ek : k = i
    · subst ek; rw [rset_s]; exact h5
    · rw [rset_n (by omega)]; exact o1 k hk
theorem mInv.kee {i : Nat} {v : Nat → Int32} (h : mInv V nk ns ne ec) (h4 : ∃ b, v 4 = zb b) (hi : i < 8) : mInv (rset V (100 + i) v) nk ns ne ec := by
  obtain ⟨a, b, c, e, f, g, o, o1, o2⟩ := h
  refine ⟨a, b, c, e, f, fun k hk => by rw [rset_n (by omega)]; exact g k hk, fun k hk j h1 h2 => by rw [rset_n (by omega)]; exact o k hk j h1 h2, fun k hk => by rw [rset_n (by omega)]; exact o1 k hk, fun k hk => ?_⟩
  by_cases ek : k = i
  · subst ek; rw [rset_s]; exact h4
  · rw [rset_n (by omega)]; exact o2 k hk
theorem mInv.sh {i : Nat} {v : Nat → Int32} (h : mInv V nk ns ne ec) (hv : ∀ j, nk ≤ j → j < 8 → v j = -1) (hi : i < 6) : mInv (rset V (300 + i) v) nk ns ne ec := by
  obtain ⟨a, b, c, e, f, g, o, o1, o2⟩ := h
  refine ⟨a, b, c, e, f, fun k hk => by rw [rset_n (by omega)]; exact g k hk, fun k hk j h1 h2 => ?_, fun k hk => by rw [rset_n (by omega)]; exact o1 k hk, fun k hk => by rw [rset_n (by omega)]; exact o2 k hk⟩
  by_cases ek : k = i
  · subst ek; rw [rset_s]; exact hv j h1 h2
  · rw [rset_n (by omega)]; exact o k hk j h1 h2
end ZM
/-- the numbers that asking leaves alone: all but the scratch -/
def zmo_ (r j : Nat) : Prop := r ≠ 8 ∧ r ≠ 9 ∧ (r = 0 → j ≤ 5)
def zKm (V V' : Nat → Nat → Int32) : Prop := ∀ r j, zmo_ r j → V' r j = V r j
theorem zKm.rf {V : Nat → Nat → Int32} : zKm V V := fun _ _ _ => rfl
theorem zKm.tr {V V1 V2 : Nat → Nat → Int32} (h1 : zKm V V1) (h2 : zKm V1 V2) : zKm V V2 := fun r j h => (h2 r j h).trans (h1 r j h)
theorem zKm.set {V : Nat → Nat → Int32} {r : Nat} {v : Nat → Int32} (h : ∀ j, zmo_ r j → v j = V r j) : zKm V (rset V r v) := fun q j hq => by
  by_cases e : q = r
  · subst e; rw [rset_s]; exact h j hq
  · rw [rset_n e]
theorem zKm.off {V : Nat → Nat → Int32} {r : Nat} {v : Nat → Int32} (h : r = 8 ∨ r = 9) : zKm V (rset V r v) := zKm.set fun j hj => by unfold zmo_ at hj; omega
section ZFG
variable {g0 : State} {d : zD} {y : MethodName} {cc : ByteArray} {nL : Nat} {ret : Option FieldType} {tb : List ExceptionTableEntry} {p : Program} {l : Launch} {e : Env} {R : Room} {s : State} {m : MethodId} {args : Array Value} {below : List Frame} {meth : Method} {c : Code} {Q : State → Prop} {cells slots : Nat} {G : zG} {L : List (Nat × Value)} {st : List Value} {pc : Nat}
/-- cells are forgotten -/
theorem z_forget {G' : zG} (hs : ∀ a v, G' a = some v → G a = some v) (k : Z g0 d y cc nL ret tb p l e R s m args below meth c Q cells slots G' L st pc) : Z g0 d y cc nL ret tb p l e R s m args below meth c Q cells slots G L st pc := fun hc H locs ls hP hS hl => k hc H locs ls (hP.mono hs) hS hl
end ZFG
theorem zF_AL_size : zF "java/util/ArrayList" ⟨"java/util/List", "size", "()I"⟩ y_AL_size := ⟨qD_Li_size_04f1, qIm_Li_javautilList_size_I, qP_AL_size, qU_AL_size_I, qT_AL_Li, qV_AL_Li_size_04f1, qI_AL_size, ⟨by decide, by decide⟩, rfl⟩
theorem zF_AL_get : zF "java/util/ArrayList" ⟨"java/util/List", "get", "(I)Ljava/lang/Object;"⟩ y_AL_get := ⟨qD_Li_get_7cbf, qIm_Li_javautilList_get_ILjavalangObject, qP_AL_get, qU_AL_get_ILjavalangObject, qT_AL_Li, qV_AL_Li_get_7cbf, qI_AL_get, ⟨by decide, by decide⟩, rfl⟩
theorem zF_AL_add_1 : zF "java/util/ArrayList" ⟨"java/util/List", "add", "(Ljava/lang/Object;)Z"⟩ y_AL_add_1 := ⟨qD_Li_add_79ae, qIm_Li_javautilList_add_LjavalangObjectZ, qP_AL_add_1, qU_AL_add_LjavalangObjectZ, qT_AL_Li, qV_AL_Li_add_79ae, qI_AL_add_1, ⟨by decide, by decide⟩, rfl⟩
/-- mod, as the reference reckons it -/
def zmd (x : Int32) : Int32 := zr97 (zr97 x + 97)
theorem zmd_in (x : Int32) : vp_in (zmd x) 97 := by
  have h := i97 x
  have hb : -97 < x.toInt.tmod 97 ∧ x.toInt.tmod 97 < 97 := by
    rcases Int.le_total 0 x.toInt with h | h
    · rw [Int.tmod_eq_emod_of_nonneg h]; omega
    · have h2 : x.toInt = -(-x.toInt) := by omega
      rw [h2, Int.neg_tmod, Int.tmod_eq_emod_of_nonneg (by omega)]; omega
  have h1 : (zr97 x + 97).toInt = x.toInt.tmod 97 + 97 := by
    rw [Int32.toInt_add]
    show ((x - x / 97 * 97).toInt + 97).bmod (2 ^ 32) = _
    rw [h]
    exact Int.bmod_eq_of_le (by omega) (by omega)
  have h2 := i97 (zr97 x + 97)
  rw [h1, Int.tmod_eq_emod_of_nonneg (by omega)] at h2
  obtain ⟨j, hj, e⟩ := nI_of (x := zmd x) (fun q => by
    rw [Int32.lt_iff_toInt_lt] at q
    have : (zmd x).toInt = (x.toInt.tmod 97 + 97) % 97 := h2
    rw [this] at q
    simp only [Int32.reduceToInt] at q
    omega)
  have h3 : (zmd x).toInt = (x.toInt.tmod 97 + 97) % 97 := h2
  rw [e]
  refine vp_in_nI ?_ (by decide)
  rw [e, nI_toInt (by omega)] at h3
  omega
theorem zpop_step : ∀ m, m < 512 → zpop 9 m = m % 2 + zpop 9 (m / 2) := by decide +kernel

theorem d_Mo_no_0 : decode c_Mo_no 0 = .ok (.aload_n 0, 1) := by decide +kernel
theorem d_Mo_no_1 : decode c_Mo_no 1 = .ok (.iload_n 1, 1) := by decide +kernel
theorem d_Mo_no_2 : decode c_Mo_no 2 = .ok (.putfield 36, 3) := by decide +kernel
theorem d_Mo_no_5 : decode c_Mo_no 5 = .ok (.iconst 0, 1) := by decide +kernel
theorem d_Mo_no_6 : decode c_Mo_no 6 = .ok (.ireturn, 1) := by decide +kernel
set_option maxHeartbeats 4000000 in
set_option maxRecDepth 100000 in
theorem m_Mo_no {g0 : State} {d : zD} {l : Launch} {a0 : Array Value} (hs0 : zS0 d a0 g0) (hst : l.stackTraces = false) {G : zG} {h : Nat} {a b c9 e9 f9 g9 : Int32} {w1 w2 w3 w4 w5 w6 : Value} (hG_Mo : G h = some (zob 12 [.int a, .int b, .int c9, .int e9, .int f9, .int g9, w1, w2, w3, w4, w5, w6])) (x : Int32) : zMet g0 d l y_Mo_no c_Mo_no 2 ((Option.some Jvm.ClassFile.FieldType.int)) 1 0 0 [.ref h, .int x] (G) (zEq (some (.int 0)) (zu G h (zob 12 [.int x, .int b, .int c9, .int e9, .int f9, .int g9, w1, w2, w3, w4, w5, w6]))) (zNo) := by
  refine z_entry hs0 hst (by decide) (Nat.le_of_ble_eq_true rfl) (fun p e s m args below meth c => ?_)
  refine z_aload_n 0 d_Mo_no_0 rfl rfl ?_
  refine z_iload_n 1 d_Mo_no_1 rfl rfl ?_
  refine z_put zc_Mo 0 (by decide) qF_Mo_36 hG_Mo rfl rfl rfl (Nat.le_of_ble_eq_true rfl) d_Mo_no_2 ?_
  refine z_iconst (v := 0) d_Mo_no_5 (by decide) ?_
  exact z_iret rfl (⟨rfl, rfl⟩) (by first | decide | omega) (by first | decide | omega) d_Mo_no_6
theorem d_Mo_mod_0 : decode c_Mo_mod 0 = .ok (.iload_n 0, 1) := by decide +kernel
theorem d_Mo_mod_1 : decode c_Mo_mod 1 = .ok (.bipush 97, 2) := by decide +kernel
theorem d_Mo_mod_3 : decode c_Mo_mod 3 = .ok (.irem, 1) := by decide +kernel
theorem d_Mo_mod_4 : decode c_Mo_mod 4 = .ok (.bipush 97, 2) := by decide +kernel
theorem d_Mo_mod_6 : decode c_Mo_mod 6 = .ok (.iadd, 1) := by decide +kernel
theorem d_Mo_mod_7 : decode c_Mo_mod 7 = .ok (.bipush 97, 2) := by decide +kernel
theorem d_Mo_mod_9 : decode c_Mo_mod 9 = .ok (.irem, 1) := by decide +kernel
theorem d_Mo_mod_10 : decode c_Mo_mod 10 = .ok (.ireturn, 1) := by decide +kernel
set_option maxHeartbeats 4000000 in
set_option maxRecDepth 100000 in
theorem m_Mo_mod {g0 : State} {d : zD} {l : Launch} {a0 : Array Value} (hs0 : zS0 d a0 g0) (hst : l.stackTraces = false) {G : zG} (x : Int32) : zMet g0 d l y_Mo_mod c_Mo_mod 1 ((Option.some Jvm.ClassFile.FieldType.int)) 1 0 0 [.int x] (G) (zEq (some (.int (zmd x))) G) (zNo) := by
  refine z_entry hs0 hst (by decide) (Nat.le_of_ble_eq_true rfl) (fun p e s m args below meth c => ?_)
  refine z_iload_n 0 d_Mo_mod_0 rfl rfl ?_
  refine z_bipush (v := 97) d_Mo_mod_1 (by decide) ?_
  refine z_irem d_Mo_mod_3 (by decide) ?_
  refine z_bipush (v := 97) d_Mo_mod_4 (by decide) ?_
  refine z_iadd d_Mo_mod_6 ?_
  refine z_bipush (v := 97) d_Mo_mod_7 (by decide) ?_
  refine z_irem d_Mo_mod_9 (by decide) ?_
  exact z_iret rfl (⟨rfl, rfl⟩) (by first | decide | omega) (by first | decide | omega) d_Mo_mod_10
theorem d_Mo_over_0 : decode c_Mo_over 0 = .ok (.aload_n 0, 1) := by decide +kernel
theorem d_Mo_over_1 : decode c_Mo_over 1 = .ok (.getfield 26, 3) := by decide +kernel
theorem d_Mo_over_4 : decode c_Mo_over 4 = .ok (.iload_n 1, 1) := by decide +kernel
theorem d_Mo_over_5 : decode c_Mo_over 5 = .ok (.iaload, 1) := by decide +kernel
theorem d_Mo_over_6 : decode c_Mo_over 6 = .ok (.ireturn, 1) := by decide +kernel
set_option maxHeartbeats 4000000 in
set_option maxRecDepth 100000 in
theorem m_Mo_over {g0 : State} {d : zD} {l : Launch} {a0 : Array Value} (hs0 : zS0 d a0 g0) (hst : l.stackTraces = false) {G : zG} {B : Nat → Nat} {V : Nat → Nat → Int32} {nk ns ne ec : Nat} (hM : zM d B V nk ns ne ec G) {x : Int32} (hx : vp_in x 97) : zMet g0 d l y_Mo_over c_Mo_over 2 ((Option.some Jvm.ClassFile.FieldType.int)) 1 0 0 [.ref (B 0), .int x] (G) (zEq (some (.int (V 7 x.toNatClampNeg))) G) (zNo) := by
  have hG_Mo := hM.mo
  have hnk : nk ≤ 8 := hM.2.1
  have hns : ns ≤ 6 := hM.2.2.1
  have hne : ne ≤ 64 := hM.2.2.2.1
  refine z_entry hs0 hst (by decide) (Nat.le_of_ble_eq_true rfl) (fun p e s m args below meth c => ?_)
  refine z_aload_n 0 d_Mo_over_0 rfl rfl ?_
  refine z_get zc_Mo 9 (by decide) qF_Mo_26 hG_Mo rfl d_Mo_over_1 ?_
  refine z_iload_n 1 d_Mo_over_4 rfl rfl ?_
  refine z_iald hM.iv (hx) d_Mo_over_5 ?_
  exact z_iret rfl (⟨rfl, rfl⟩) (by first | decide | omega) (by first | decide | omega) d_Mo_over_6
theorem d_Mo_isKeeper_0 : decode c_Mo_isKeeper 0 = .ok (.iload_n 1, 1) := by decide +kernel
theorem d_Mo_isKeeper_1 : decode c_Mo_isKeeper 1 = .ok (.iconst 0, 1) := by decide +kernel
theorem d_Mo_isKeeper_2 : decode c_Mo_isKeeper 2 = .ok (.aload_n 0, 1) := by decide +kernel
theorem d_Mo_isKeeper_3 : decode c_Mo_isKeeper 3 = .ok (.getfield 16, 3) := by decide +kernel
theorem d_Mo_isKeeper_6 : decode c_Mo_isKeeper 6 = .ok (.invokeinterface 94 1, 5) := by decide +kernel
theorem d_Mo_isKeeper_11 : decode c_Mo_isKeeper 11 = .ok (.iconst 1, 1) := by decide +kernel
theorem d_Mo_isKeeper_12 : decode c_Mo_isKeeper 12 = .ok (.isub, 1) := by decide +kernel
theorem d_Mo_isKeeper_13 : decode c_Mo_isKeeper 13 = .ok (.invokestatic 115, 3) := by decide +kernel
theorem d_Mo_isKeeper_16 : decode c_Mo_isKeeper 16 = .ok (.ireturn, 1) := by decide +kernel
set_option maxHeartbeats 4000000 in
set_option maxRecDepth 100000 in
theorem m_Mo_isKeeper {g0 : State} {d : zD} {l : Launch} {a0 : Array Value} (hs0 : zS0 d a0 g0) (hst : l.stackTraces = false) {G : zG} {B : Nat → Nat} {V : Nat → Nat → Int32} {nk ns ne ec : Nat} (hM : zM d B V nk ns ne ec G) (x : Int32) : zMet g0 d l y_Mo_isKeeper c_Mo_isKeeper 2 ((Option.some Jvm.ClassFile.FieldType.boolean)) 2 0 0 [.ref (B 0), .int x] (G) (zEq (some (.int (zb (zin x 0 (nI nk - 1))))) G) (zNo) := by
  have hG_Mo := hM.mo
  have hnk : nk ≤ 8 := hM.2.1
  have hns : ns ≤ 6 := hM.2.2.1
  have hne : ne ≤ 64 := hM.2.2.2.1
  refine z_entry hs0 hst (by decide) (Nat.le_of_ble_eq_true rfl) (fun p e s m args below meth c => ?_)
  refine z_iload_n 1 d_Mo_isKeeper_0 rfl rfl ?_
  refine z_iconst (v := 0) d_Mo_isKeeper_1 (by decide) ?_
  refine z_aload_n 0 d_Mo_isKeeper_2 rfl rfl ?_
  refine z_get zc_Mo 6 (by decide) qF_Mo_16 hG_Mo rfl d_Mo_isKeeper_3 ?_
  refine z_callF0 (m_AL_size hs0 hst hM.kl) ym_AL_size zF_AL_size qM_Mo_94 zc_AL hM.kl d_Mo_isKeeper_6 rfl (Nat.le_of_ble_eq_true rfl) ⟨Nat.zero_le _, Nat.zero_le _⟩ ⟨Nat.le_of_ble_eq_true rfl, Nat.le_of_ble_eq_true rfl⟩ ?_
  refine z_iconst (v := 1) d_Mo_isKeeper_11 (by decide) ?_
  refine z_isub d_Mo_isKeeper_12 ?_
  refine z_callS0 (m_Mo_in hs0 hst x 0 _) ym_Mo_in qM_Mo_115 qS_Mo_in d_Mo_isKeeper_13 rfl (Nat.le_of_ble_eq_true rfl) ⟨Nat.zero_le _, Nat.zero_le _⟩ ⟨Nat.le_of_ble_eq_true rfl, Nat.le_of_ble_eq_true rfl⟩ ?_
  exact z_zret rfl (by first | rfl | exact zb_nar _) (⟨rfl, rfl⟩) (by first | decide | omega) (by first | decide | omega) d_Mo_isKeeper_16
theorem d_Mo_isSecret_0 : decode c_Mo_isSecret 0 = .ok (.iload_n 1, 1) := by decide +kernel
theorem d_Mo_isSecret_1 : decode c_Mo_isSecret 1 = .ok (.iconst 0, 1) := by decide +kernel
theorem d_Mo_isSecret_2 : decode c_Mo_isSecret 2 = .ok (.aload_n 0, 1) := by decide +kernel
theorem d_Mo_isSecret_3 : decode c_Mo_isSecret 3 = .ok (.getfield 20, 3) := by decide +kernel
theorem d_Mo_isSecret_6 : decode c_Mo_isSecret 6 = .ok (.invokeinterface 94 1, 5) := by decide +kernel
theorem d_Mo_isSecret_11 : decode c_Mo_isSecret 11 = .ok (.iconst 1, 1) := by decide +kernel
theorem d_Mo_isSecret_12 : decode c_Mo_isSecret 12 = .ok (.isub, 1) := by decide +kernel
theorem d_Mo_isSecret_13 : decode c_Mo_isSecret 13 = .ok (.invokestatic 115, 3) := by decide +kernel
theorem d_Mo_isSecret_16 : decode c_Mo_isSecret 16 = .ok (.ireturn, 1) := by decide +kernel
set_option maxHeartbeats 4000000 in
set_option maxRecDepth 100000 in
theorem m_Mo_isSecret {g0 : State} {d : zD} {l : Launch} {a0 : Array Value} (hs0 : zS0 d a0 g0) (hst : l.stackTraces = false) {G : zG} {B : Nat → Nat} {V : Nat → Nat → Int32} {nk ns ne ec : Nat} (hM : zM d B V nk ns ne ec G) (x : Int32) : zMet g0 d l y_Mo_isSecret c_Mo_isSecret 2 ((Option.some Jvm.ClassFile.FieldType.boolean)) 2 0 0 [.ref (B 0), .int x] (G) (zEq (some (.int (zb (zin x 0 (nI ns - 1))))) G) (zNo) := by
  have hG_Mo := hM.mo
  have hnk : nk ≤ 8 := hM.2.1
  have hns : ns ≤ 6 := hM.2.2.1
  have hne : ne ≤ 64 := hM.2.2.2.1
  refine z_entry hs0 hst (by decide) (Nat.le_of_ble_eq_true rfl) (fun p e s m args below meth c => ?_)
  refine z_iload_n 1 d_Mo_isSecret_0 rfl rfl ?_
  refine z_iconst (v := 0) d_Mo_isSecret_1 (by decide) ?_
  refine z_aload_n 0 d_Mo_isSecret_2 rfl rfl ?_
  refine z_get zc_Mo 7 (by decide) qF_Mo_20 hG_Mo rfl d_Mo_isSecret_3 ?_
  refine z_callF0 (m_AL_size hs0 hst hM.sl) ym_AL_size zF_AL_size qM_Mo_94 zc_AL hM.sl d_Mo_isSecret_6 rfl (Nat.le_of_ble_eq_true rfl) ⟨Nat.zero_le _, Nat.zero_le _⟩ ⟨Nat.le_of_ble_eq_true rfl, Nat.le_of_ble_eq_true rfl⟩ ?_
  refine z_iconst (v := 1) d_Mo_isSecret_11 (by decide) ?_
  refine z_isub d_Mo_isSecret_12 ?_
  refine z_callS0 (m_Mo_in hs0 hst x 0 _) ym_Mo_in qM_Mo_115 qS_Mo_in d_Mo_isSecret_13 rfl (Nat.le_of_ble_eq_true rfl) ⟨Nat.zero_le _, Nat.zero_le _⟩ ⟨Nat.le_of_ble_eq_true rfl, Nat.le_of_ble_eq_true rfl⟩ ?_
  exact z_zret rfl (by first | rfl | exact zb_nar _) (⟨rfl, rfl⟩) (by first | decide | omega) (by first | decide | omega) d_Mo_isSecret_16
theorem d_Mo_isEntry_0 : decode c_Mo_isEntry 0 = .ok (.iload_n 1, 1) := by decide +kernel
theorem d_Mo_isEntry_1 : decode c_Mo_isEntry 1 = .ok (.iconst 0, 1) := by decide +kernel
theorem d_Mo_isEntry_2 : decode c_Mo_isEntry 2 = .ok (.aload_n 0, 1) := by decide +kernel
theorem d_Mo_isEntry_3 : decode c_Mo_isEntry 3 = .ok (.getfield 23, 3) := by decide +kernel
theorem d_Mo_isEntry_6 : decode c_Mo_isEntry 6 = .ok (.invokeinterface 94 1, 5) := by decide +kernel
theorem d_Mo_isEntry_11 : decode c_Mo_isEntry 11 = .ok (.iconst 1, 1) := by decide +kernel
theorem d_Mo_isEntry_12 : decode c_Mo_isEntry 12 = .ok (.isub, 1) := by decide +kernel
theorem d_Mo_isEntry_13 : decode c_Mo_isEntry 13 = .ok (.invokestatic 115, 3) := by decide +kernel
theorem d_Mo_isEntry_16 : decode c_Mo_isEntry 16 = .ok (.ireturn, 1) := by decide +kernel
set_option maxHeartbeats 4000000 in
set_option maxRecDepth 100000 in
theorem m_Mo_isEntry {g0 : State} {d : zD} {l : Launch} {a0 : Array Value} (hs0 : zS0 d a0 g0) (hst : l.stackTraces = false) {G : zG} {B : Nat → Nat} {V : Nat → Nat → Int32} {nk ns ne ec : Nat} (hM : zM d B V nk ns ne ec G) (x : Int32) : zMet g0 d l y_Mo_isEntry c_Mo_isEntry 2 ((Option.some Jvm.ClassFile.FieldType.boolean)) 2 0 0 [.ref (B 0), .int x] (G) (zEq (some (.int (zb (zin x 0 (nI ne - 1))))) G) (zNo) := by
  have hG_Mo := hM.mo
  have hnk : nk ≤ 8 := hM.2.1
  have hns : ns ≤ 6 := hM.2.2.1
  have hne : ne ≤ 64 := hM.2.2.2.1
  refine z_entry hs0 hst (by decide) (Nat.le_of_ble_eq_true rfl) (fun p e s m args below meth c => ?_)
  refine z_iload_n 1 d_Mo_isEntry_0 rfl rfl ?_
  refine z_iconst (v := 0) d_Mo_isEntry_1 (by decide) ?_
  refine z_aload_n 0 d_Mo_isEntry_2 rfl rfl ?_
  refine z_get zc_Mo 8 (by decide) qF_Mo_23 hG_Mo rfl d_Mo_isEntry_3 ?_
  refine z_callF0 (m_AL_size hs0 hst hM.el) ym_AL_size zF_AL_size qM_Mo_94 zc_AL hM.el d_Mo_isEntry_6 rfl (Nat.le_of_ble_eq_true rfl) ⟨Nat.zero_le _, Nat.zero_le _⟩ ⟨Nat.le_of_ble_eq_true rfl, Nat.le_of_ble_eq_true rfl⟩ ?_
  refine z_iconst (v := 1) d_Mo_isEntry_11 (by decide) ?_
  refine z_isub d_Mo_isEntry_12 ?_
  refine z_callS0 (m_Mo_in hs0 hst x 0 _) ym_Mo_in qM_Mo_115 qS_Mo_in d_Mo_isEntry_13 rfl (Nat.le_of_ble_eq_true rfl) ⟨Nat.zero_le _, Nat.zero_le _⟩ ⟨Nat.le_of_ble_eq_true rfl, Nat.le_of_ble_eq_true rfl⟩ ?_
  exact z_zret rfl (by first | rfl | exact zb_nar _) (⟨rfl, rfl⟩) (by first | decide | omega) (by first | decide | omega) d_Mo_isEntry_16
theorem d_Mo_isSet_0 : decode c_Mo_isSet 0 = .ok (.iload_n 1, 1) := by decide +kernel
theorem d_Mo_isSet_1 : decode c_Mo_isSet 1 = .ok (.iconst 0, 1) := by decide +kernel
theorem d_Mo_isSet_2 : decode c_Mo_isSet 2 = .ok (.iconst 1, 1) := by decide +kernel
theorem d_Mo_isSet_3 : decode c_Mo_isSet 3 = .ok (.aload_n 0, 1) := by decide +kernel
theorem d_Mo_isSet_4 : decode c_Mo_isSet 4 = .ok (.getfield 16, 3) := by decide +kernel
theorem d_Mo_isSet_7 : decode c_Mo_isSet 7 = .ok (.invokeinterface 94 1, 5) := by decide +kernel
theorem d_Mo_isSet_12 : decode c_Mo_isSet 12 = .ok (.ishl, 1) := by decide +kernel
theorem d_Mo_isSet_13 : decode c_Mo_isSet 13 = .ok (.iconst 1, 1) := by decide +kernel
theorem d_Mo_isSet_14 : decode c_Mo_isSet 14 = .ok (.isub, 1) := by decide +kernel
theorem d_Mo_isSet_15 : decode c_Mo_isSet 15 = .ok (.invokestatic 115, 3) := by decide +kernel
theorem d_Mo_isSet_18 : decode c_Mo_isSet 18 = .ok (.ireturn, 1) := by decide +kernel
set_option maxHeartbeats 4000000 in
set_option maxRecDepth 100000 in
theorem m_Mo_isSet {g0 : State} {d : zD} {l : Launch} {a0 : Array Value} (hs0 : zS0 d a0 g0) (hst : l.stackTraces = false) {G : zG} {B : Nat → Nat} {V : Nat → Nat → Int32} {nk ns ne ec : Nat} (hM : zM d B V nk ns ne ec G) (x : Int32) : zMet g0 d l y_Mo_isSet c_Mo_isSet 2 ((Option.some Jvm.ClassFile.FieldType.boolean)) 2 0 0 [.ref (B 0), .int x] (G) (zEq (some (.int (zb (zsetok nk x)))) G) (zNo) := by
  have hG_Mo := hM.mo
  have hnk : nk ≤ 8 := hM.2.1
  have hns : ns ≤ 6 := hM.2.2.1
  have hne : ne ≤ 64 := hM.2.2.2.1
  refine z_entry hs0 hst (by decide) (Nat.le_of_ble_eq_true rfl) (fun p e s m args below meth c => ?_)
  refine z_iload_n 1 d_Mo_isSet_0 rfl rfl ?_
  refine z_iconst (v := 0) d_Mo_isSet_1 (by decide) ?_
  refine z_iconst (v := 1) d_Mo_isSet_2 (by decide) ?_
  refine z_aload_n 0 d_Mo_isSet_3 rfl rfl ?_
  refine z_get zc_Mo 6 (by decide) qF_Mo_16 hG_Mo rfl d_Mo_isSet_4 ?_
  refine z_callF0 (m_AL_size hs0 hst hM.kl) ym_AL_size zF_AL_size qM_Mo_94 zc_AL hM.kl d_Mo_isSet_7 rfl (Nat.le_of_ble_eq_true rfl) ⟨Nat.zero_le _, Nat.zero_le _⟩ ⟨Nat.le_of_ble_eq_true rfl, Nat.le_of_ble_eq_true rfl⟩ ?_
  refine z_ishl d_Mo_isSet_12 ?_
  refine z_iconst (v := 1) d_Mo_isSet_13 (by decide) ?_
  refine z_isub d_Mo_isSet_14 ?_
  refine z_callS0 (m_Mo_in hs0 hst x 0 _) ym_Mo_in qM_Mo_115 qS_Mo_in d_Mo_isSet_15 rfl (Nat.le_of_ble_eq_true rfl) ⟨Nat.zero_le _, Nat.zero_le _⟩ ⟨Nat.le_of_ble_eq_true rfl, Nat.le_of_ble_eq_true rfl⟩ ?_
  exact z_zret rfl (by first | rfl | exact zb_nar _) (⟨rfl, rfl⟩) (by first | decide | omega) (by first | decide | omega) d_Mo_isSet_18
theorem d_Mo_size_0 : decode c_Mo_size 0 = .ok (.iconst 0, 1) := by decide +kernel
theorem d_Mo_size_1 : decode c_Mo_size 1 = .ok (.istore_n 1, 1) := by decide +kernel
theorem d_Mo_size_2 : decode c_Mo_size 2 = .ok (.iload_n 0, 1) := by decide +kernel
theorem d_Mo_size_3 : decode c_Mo_size 3 = .ok (.istore_n 2, 1) := by decide +kernel
theorem d_Mo_size_4 : decode c_Mo_size 4 = .ok (.iload_n 2, 1) := by decide +kernel
theorem d_Mo_size_5 : decode c_Mo_size 5 = .ok (.ifCond .le 16, 3) := by decide +kernel
theorem d_Mo_size_8 : decode c_Mo_size 8 = .ok (.iload_n 1, 1) := by decide +kernel
theorem d_Mo_size_9 : decode c_Mo_size 9 = .ok (.iload_n 2, 1) := by decide +kernel
theorem d_Mo_size_10 : decode c_Mo_size 10 = .ok (.iconst 2, 1) := by decide +kernel
theorem d_Mo_size_11 : decode c_Mo_size 11 = .ok (.irem, 1) := by decide +kernel
theorem d_Mo_size_12 : decode c_Mo_size 12 = .ok (.iadd, 1) := by decide +kernel
theorem d_Mo_size_13 : decode c_Mo_size 13 = .ok (.istore_n 1, 1) := by decide +kernel
theorem d_Mo_size_14 : decode c_Mo_size 14 = .ok (.iload_n 2, 1) := by decide +kernel
theorem d_Mo_size_15 : decode c_Mo_size 15 = .ok (.iconst 2, 1) := by decide +kernel
theorem d_Mo_size_16 : decode c_Mo_size 16 = .ok (.idiv, 1) := by decide +kernel
theorem d_Mo_size_17 : decode c_Mo_size 17 = .ok (.istore_n 2, 1) := by decide +kernel
theorem d_Mo_size_18 : decode c_Mo_size 18 = .ok (.goto (-14), 3) := by decide +kernel
theorem d_Mo_size_21 : decode c_Mo_size 21 = .ok (.iload_n 1, 1) := by decide +kernel
theorem d_Mo_size_22 : decode c_Mo_size 22 = .ok (.ireturn, 1) := by decide +kernel
set_option maxHeartbeats 4000000 in
set_option maxRecDepth 100000 in
theorem m_Mo_size {g0 : State} {d : zD} {l : Launch} {a0 : Array Value} (hs0 : zS0 d a0 g0) (hst : l.stackTraces = false) {G : zG} {nn : Nat} (hn : nn < 512) : zMet g0 d l y_Mo_size c_Mo_size 3 ((Option.some Jvm.ClassFile.FieldType.int)) 1 0 0 [.int (nI nn)] (G) (zEq (some (.int (nI (zpop 9 nn)))) G) (zNo) := by
  refine z_entry hs0 hst (by decide) (Nat.le_of_ble_eq_true rfl) (fun p e s m args below meth c => ?_)
  refine z_iconst (v := (nI 0)) d_Mo_size_0 (by decide) ?_
  refine z_istore_n (L' := [(1, _), (0, _)]) d_Mo_size_1 rfl (by decide) rfl ?_
  refine z_iload_n 1 d_Mo_size_2 rfl rfl ?_
  refine z_istore_n (L' := [(2, _), (1, _), (0, _)]) d_Mo_size_3 rfl (by decide) rfl ?_
  have key_4 : ∀ (n : Nat) (i v : Nat), i < n → (i < 512) → (v + zpop 9 i = zpop 9 nn) → Z g0 d y_Mo_size c_Mo_size 3 ((Option.some Jvm.ClassFile.FieldType.int)) [] p l e (zR 1 0 0) s m args below meth c (vx_MQ below (zQc g0 d (zEq (some (.int (nI (zpop 9 nn)))) G)) (zXc g0 d (zNo)) args s 0 0 (zA g0)) 0 0 (G) [(2, .int (nI i)), (1, .int (nI v)), (0, .int (nI nn))] [] 4 := by
    intro n
    induction n with
    | zero => intro i v h0; exact absurd h0 (Nat.not_lt_zero _)
    | succ n ih_4 =>
      intro i v hm_4 hi hv
      refine z_iload_n 0 d_Mo_size_4 rfl rfl ?_
      refine z_if_le 21 d_Mo_size_5 (by decide) (fun c_5 => ?_) (fun c_5 => ?_)
      · skip
        obtain rfl : i = 0 := by
          rw [← nI_0] at c_5
          have := (nI_leI (a := i) (b := 0) (by omega) (by decide)).mp c_5
          omega
        obtain rfl : v = zpop 9 nn := by rw [← hv]; rfl
        refine z_iload_n 1 d_Mo_size_21 rfl rfl ?_
        exact z_iret rfl (⟨rfl, rfl⟩) (by first | decide | omega) (by first | decide | omega) d_Mo_size_22
      · skip
        have hi1 : 0 < i := Nat.pos_of_ne_zero fun e => c_5 (by subst e; decide)
        have hv9 : zpop 9 i ≤ 9 := zpop_le i hi
        have hvn : zpop 9 nn ≤ 9 := zpop_le nn hn
        refine z_iload_n 1 d_Mo_size_8 rfl rfl ?_
        refine z_iload_n 0 d_Mo_size_9 rfl rfl ?_
        refine z_iconst (v := 2) d_Mo_size_10 (by decide) ?_
        refine z_irem d_Mo_size_11 (by decide) ?_
        refine z_iadd d_Mo_size_12 ?_
        refine z_topv (v := nI (v + i % 2)) (by rw [show (2 : Int32) = nI 2 from rfl, pk_rem (by omega) (by decide) (by decide)]; exact nI_add _ _) ?_
        refine z_istore_n (L' := [(1, _), (2, _), (0, _)]) d_Mo_size_13 rfl (by decide) rfl ?_
        refine z_iload_n 1 d_Mo_size_14 rfl rfl ?_
        refine z_iconst (v := 2) d_Mo_size_15 (by decide) ?_
        refine z_idiv d_Mo_size_16 (by decide) ?_
        refine z_topv (v := nI (i / 2)) (by rw [show (2 : Int32) = nI 2 from rfl]; exact pk_div (by omega) (by decide) (by decide)) ?_
        refine z_istore_n (L' := [(2, _), (1, _), (0, _)]) d_Mo_size_17 rfl (by decide) rfl ?_
        refine z_goto 4 d_Mo_size_18 (by decide) ?_
        exact ih_4 (i / 2) (v + i % 2) (by omega) (by omega) (by have := zpop_step i hi; omega)
  exact key_4 (nn + 1) nn 0 (by omega) (by omega) (by omega)
