
/-! the law's two worlds, beside each other -/
def zL (d : zD) (ho : Nat) (A : Nat → Nat) (D : Nat → UInt64) (V : Nat → Nat → Int32) (nk ns : Nat) (B : Nat → Nat) (W : Nat → Nat → Int32) (nk2 ns2 ne ec : Nat) (G : zG) : Prop := zT d A D V nk ns G ∧ zM d B W nk2 ns2 ne ec G ∧ (∀ r q, tlive nk ns r → mlive nk2 ns2 ne q → A r ≠ B q) ∧ zOut ho G ∧ (∀ r, tlive nk ns r → A r ≠ ho) ∧ (∀ q, mlive nk2 ns2 ne q → B q ≠ ho)
theorem zNw.rf {A : Nat → Nat} {nk ns : Nat} {G : zG} : zNw A A nk ns nk ns G := ⟨rfl, fun r hr => Or.inl ⟨r, hr, rfl⟩⟩
section ZLL
variable {d : zD} {ho : Nat} {A A' : Nat → Nat} {D D' : Nat → UInt64} {V V' : Nat → Nat → Int32} {nk ns nk' ns' : Nat} {B B' : Nat → Nat} {W W' : Nat → Nat → Int32} {nk2 ns2 ne ec nk2' ns2' ne' ec' : Nat} {G G1 : zG}
theorem zL.t (h : zL d ho A D V nk ns B W nk2 ns2 ne ec G) : zT d A D V nk ns G := h.1
theorem zL.m (h : zL d ho A D V nk ns B W nk2 ns2 ne ec G) : zM d B W nk2 ns2 ne ec G := h.2.1
theorem zL.o (h : zL d ho A D V nk ns B W nk2 ns2 ne ec G) : zOut ho G := h.2.2.2.1
theorem zL.o1 (h : zL d ho A D V nk ns B W nk2 ns2 ne ec G) : ∀ r, tlive nk ns r → A r ≠ ho := h.2.2.2.2.1
/-- the class's step -/
theorem zL.cls (h : zL d ho A D V nk ns B W nk2 ns2 ne ec G) (hT : zT d A' D' V' nk' ns' G1) (hN : zNw A A' nk ns nk' ns' G) (hO : zOut ho G1) (hF : lFr A nk ns ho G G1) : zL d ho A' D' V' nk' ns' B W nk2 ns2 ne ec G1 := by
  obtain ⟨h1, h2, h3, ⟨n, x, y, h4⟩, h5, h6⟩ := h
  refine ⟨hT, ⟨⟨h2.1.1, fun q hq => hF _ _ (h2.1.2 q hq) (fun r hr e => h3 r q hr hq e.symm) (h6 q hq)⟩, h2.2⟩, fun r q hr hq e => ?_, hO, hN.ho h5 h4, h6⟩
  rcases hN.2 r hr with ⟨p, hp, e2⟩ | e2
  · exact h3 p q hp hq (e2.symm.trans e)
  · rw [e, h2.1.2 q hq] at e2; cases e2
theorem zL.out (h : zL d ho A D V nk ns B W nk2 ns2 ne ec G) (hF : tFr A nk ns G G1) : zOut ho G1 := by
  obtain ⟨n, x, y, e⟩ := h.o
  exact ⟨n, x, y, hF _ _ e (fun r hr => (h.o1 r hr).symm)⟩
/-- the reference's step -/
theorem zL.mod (h : zL d ho A D V nk ns B W nk2 ns2 ne ec G) (hM : zM d B' W' nk2' ns2' ne' ec' G1) (hN : mNw B B' nk2 ns2 ne nk2' ns2' ne' G) (hF : mFr B nk2 ns2 ne G G1) : zL d ho A D V nk ns B' W' nk2' ns2' ne' ec' G1 := by
  obtain ⟨h1, h2, h3, ⟨n, x, y, h4⟩, h5, h6⟩ := h
  refine ⟨⟨⟨h1.1.1, fun r hr => hF _ _ (h1.1.2 r hr) (fun q hq => h3 r q hr hq)⟩, h1.2⟩, hM, fun r q hr hq e => ?_, ⟨n, x, y, hF _ _ h4 (fun q hq => (h6 q hq).symm)⟩, h5, fun q hq e => ?_⟩
  · rcases hN.2 q hq with ⟨p, hp, e2⟩ | e2
    · exact h3 r p hr hp (e.trans e2)
    · rw [← e, h1.1.2 r hr] at e2; cases e2
  · rcases hN.2 q hq with ⟨p, hp, e2⟩ | e2
    · exact h6 p hp (e2.symm.trans e)
    · rw [e, h4] at e2; cases e2
theorem zL.on {n : Int64} (hN : zOn ho n G) (h : zL d ho A D V nk ns B W nk2 ns2 ne ec G) (hF : mFr B nk2 ns2 ne G G1) : zOn ho n G1 := by
  obtain ⟨x, y, e⟩ := hN
  exact ⟨x, y, hF _ _ e (fun q hq => (h.2.2.2.2.2 q hq).symm)⟩
theorem zOn.o {n : Int64} (h : zOn ho n G) : zOut ho G := by
  obtain ⟨x, y, e⟩ := h
  exact ⟨n, x, y, e⟩
/-- the law between two calls: j calls made -/
def zLaw (d : zD) (ho x1 x2 j : Nat) (G : zG) : Prop := ∃ (A : Nat → Nat) (D : Nat → UInt64) (V : Nat → Nat → Int32) (nk ns : Nat) (B : Nat → Nat) (W : Nat → Nat → Int32) (ne ec : Nat), A 0 = x1 ∧ B 0 = x2 ∧ zL d ho A D V nk ns B W nk ns ne ec G ∧ zSM j V W nk ns ne
theorem zL.bk (h : zL d ho A D V nk ns B W nk ns ne ec G) : nk ≤ 8 ∧ ns ≤ 6 := ⟨h.1.2.1, h.1.2.2.1⟩
end ZLL
theorem lw_bnd {N j : Nat} (h : ¬ nI N - nI 6 < nI (6 * j)) (hN : N ≤ 3072) (hj : j ≤ 600) : 6 * j + 6 ≤ N := by
  have h1 := pk_sub_toInt (a := N) (b := 6) (by omega) (by decide)
  rw [Int32.lt_iff_toInt_lt, h1, nI_toInt (by omega)] at h
  omega
/-- frozen, told for both -/
theorem zfz {f x x3 : Int32} {q : Nat} (hq : q < 4) (hf : f = nI q) (hx : zin x 0 1 = true) : ∃ q2, q2 < 4 ∧ (if x3 = 0 then f &&& ((1 <<< (x &&& 31)) ^^^ (-1)) else f ||| (1 <<< (x &&& 31))) = nI q2 := by
  subst hf
  have hx2 : x = 0 ∨ x = 1 := by
    simp only [zin, Bool.and_eq_true, decide_eq_true_eq, Int32.le_iff_toInt_le, ← Int32.toInt_inj, Int32.reduceToInt] at *
    omega
  have key : ∀ q, q < 4 → (∃ q2, q2 < 4 ∧ nI q &&& ((1 <<< ((0 : Int32) &&& 31)) ^^^ (-1)) = nI q2) ∧ (∃ q2, q2 < 4 ∧ nI q &&& ((1 <<< ((1 : Int32) &&& 31)) ^^^ (-1)) = nI q2) ∧ (∃ q2, q2 < 4 ∧ nI q ||| (1 <<< ((0 : Int32) &&& 31)) = nI q2) ∧ ∃ q2, q2 < 4 ∧ nI q ||| (1 <<< ((1 : Int32) &&& 31)) = nI q2 := by decide +kernel
  obtain ⟨k1, k2, k3, k4⟩ := key q hq
  by_cases h3 : x3 = 0
  · simp only [if_pos h3]
    rcases hx2 with rfl | rfl
    · exact k1
    · exact k2
  · simp only [if_neg h3]
    rcases hx2 with rfl | rfl
    · exact k3
    · exact k4
section ZLW
variable {g0 : State} {d : zD} {y : MethodName} {cc : ByteArray} {nL : Nat} {ret : Option FieldType} {tb : List ExceptionTableEntry} {p : Program} {l : Launch} {e : Env} {R : Room} {s : State} {m : MethodId} {args : Array Value} {below : List Frame} {meth : Method} {c : Code} {Q : State → Prop} {cells slots : Nat} {G : zG} {L : List (Nat × Value)} {st : List Value} {pc : Nat}
theorem z_lcmp {a b : Int64} (hd : decode cc pc = .ok (.lcmp, 1)) (k : Z g0 d y cc nL ret tb p l e R s m args below meth c Q cells slots G L (.int (lg_cmp a b) :: st) (pc + 1)) : Z g0 d y cc nL ret tb p l e R s m args below meth c Q cells slots G L (.long b :: .long a :: st) pc := fun hc H locs ls hP hS hl => W.lcmp hc.x hc.b hd (k hc H locs ls hP hS hl)
end ZLW


def zIx (n : Nat) (x : Int32) : Prop := ∃ k, k < n ∧ x = nI k
theorem zIx_1 {n : Nat} {x : Int32} (hn : n < 100) (h : x < 0 ∨ nI n ≤ x) : ¬ zIx n x := fun ⟨k, hk, e⟩ => by
  subst e
  rcases h with h | h
  · exact nI_pos (by omega) h
  · have := (nI_leI (a := n) (b := k) (by omega) (by omega)).mp h; omega
theorem zIx_2 {n : Nat} {x : Int32} (hn : n < 100) (h : zin x 0 (nI n - 1) = false) : ¬ zIx n x := fun ⟨k, hk, e⟩ => by
  subst e
  have h1 : zin (nI k) 0 (nI n - 1) = true := by
    rw [nI_s1 (by omega) (by omega)]
    simp only [zin, Bool.and_eq_true, decide_eq_true_eq]
    exact ⟨nI_pos' (by omega), (nI_leI (by omega) (by omega)).mpr (by omega)⟩
  rw [h] at h1; cases h1
theorem zset_ok {nk : Nat} (hk : nk ≤ 8) {g : Nat} (hg : g < 2 ^ nk) : zsetok nk (nI g) = true := by
  have hp : 2 ^ nk ≤ 256 := Nat.pow_le_pow_right (n := 2) (by decide) hk
  unfold zsetok
  rw [zall_eq hk]
  simp only [zin, Bool.and_eq_true, decide_eq_true_eq]
  exact ⟨nI_pos' (by omega), (nI_leI (by omega) (by omega)).mpr (by omega)⟩
section ZJ
variable {d : zD} {V V' : Nat → Nat → Int32} {nk ns : Nat} {B : Nat → Nat} {W : Nat → Nat → Int32} {N ne ec : Nat} {G G1 : zG} {r : Option Value} {kk v : Int32}
/-- what the law wants behind both calls -/
def zJ (d : zD) (N : Nat) (V' : Nat → Nat → Int32) (nk ns nk' ns' : Nat) (B : Nat → Nat) (ne : Nat) (G : zG) (kk v : Int32) (r : Option Value) (G1 : zG) : Prop := ∃ (bb : Int32) (B' : Nat → Nat) (W' : Nat → Nat → Int32) (ne' ec' : Nat), r = some (.int bb) ∧ zM d B' W' nk' ns' ne' ec' G1 ∧ mNw B B' nk ns ne nk' ns' ne' G ∧ mFr B nk ns ne G G1 ∧ zSM (N + 1) V' W' nk' ns' ne' ∧ kk = W' 0 0 ∧ (kk = 0 → v = bb)
theorem mEn.t0 {W W' : Nat → Nat → Int32} {ne ne' : Nat} {kd ab : Int32} (h : mEn W W' ne ne' kd ab) : W' 0 0 = W 0 0 := by rw [h.row (r := 0) (by decide) (by decide)]
theorem zJ.thr {t : Int32} (h : zSM N V W nk ns ne) (hK : zKo V V') (hM : mThr d B nk ns ne ec W G t r G1) (ht : t ≠ 0) : zJ d N V' nk ns nk ns B ne G t v r G1 := by
  obtain ⟨rfl, W', h1, h2, h3, h4⟩ := hM
  exact ⟨0, B, W', ne, ec, rfl, h1, mNw.rf, h4, ((h.c hK).m h3).up (by omega), h2.symm, fun q => absurd q ht⟩
theorem mOp.t0 {W W' : Nat → Nat → Int32} {ne' si g : Nat} {x : Int32} (h : mOp W W' nk ne ne' si g x r) : W' 0 0 = W 0 0 := by
  obtain ⟨t, -, -, -, h⟩ := h
  rcases h with ⟨-, -, h⟩ | ⟨-, -, -, W2, h1, h⟩ | ⟨-, -, W2, W3, W5, h1, h2, h3, h4, -⟩
  · rw [h.t0, rset_s]; rfl
  · rw [h.t0, rset_s]
    show W2 0 0 = _
    rw [h1.r (r := 0) (by decide) (by decide)]
  · rw [h4.r (r := 0) (by decide) (by decide), h3.t0, h2.1 0 (by omega), h1.r (r := 0) (by decide) (by decide)]
theorem jOp (h : zSM N V W nk ns ne) (hN : N < 2 ^ 20) (hnk : nk ≤ 8) (hns : ns ≤ 6) (hb : ∀ k, k < nk → ∃ b, W (100 + k) 4 = zb b) {x set : Int32} (hC : cOp V nk ns x set kk V' v) (hM : (fun r G1 => (zin x 0 (nI ns - 1) = false ∧ mThr d B nk ns ne ec W G 1 r G1) ∨ (∃ s9, s9 < ns ∧ x = nI s9 ∧ ((zsetok nk set = false ∧ mThr d B nk ns ne ec W G 2 r G1) ∨ (∃ g9, g9 < 2 ^ nk ∧ set = nI g9 ∧ ∃ V1 B' V' ne' ec', zKn W V1 ∧ V1 0 0 = 0 ∧ mOp V1 V' nk ne ne' s9 g9 x r ∧ zM d B' V' nk ns ne' ec' G1 ∧ mNw B B' nk ns ne nk ns ne' G ∧ mFr B nk ns ne G G1)))) r G1) : zJ d N V' nk ns nk ns B ne G kk v r G1 := by
  have hp2 : 2 ^ nk ≤ 256 := Nat.pow_le_pow_right (n := 2) (by decide) hnk
  rcases hC with ⟨a, rfl, k⟩ | ⟨a, s, rfl, k⟩ | ⟨si, hsi, ex, s, rfl, hop⟩
  · rcases hM with ⟨-, t⟩ | ⟨s9, h9, e9, -⟩
    · exact zJ.thr h k t (by decide)
    · exact absurd ⟨s9, h9, e9⟩ (zIx_1 (by omega) a)
  · rcases hM with ⟨b, -⟩ | ⟨s9, h9, e9, ⟨-, t⟩ | ⟨g, hg, eg, -⟩⟩
    · exact absurd a (zIx_2 (by omega) b)
    · exact zJ.thr h k t (by decide)
    · rw [eg, zset_ok hnk hg] at s; cases s
  · rcases hM with ⟨b, -⟩ | ⟨s9, h9, e9, ⟨b, -⟩ | ⟨g, hg, eg, W1, B', W', ne', ec', k1, k2, mop, m1, m2, m3⟩⟩
    · exact absurd ⟨si, hsi, ex⟩ (zIx_2 (by omega) b)
    · rw [s] at b; cases b
    · have es : s9 = si := (nI_eq (by omega) (by omega)).mp (e9.symm.trans ex)
      subst es
      subst eg
      obtain ⟨e1, e2⟩ := (h.m k1).op hN hnk hns (fun k hk => by rw [k1.row (r := 100 + k) (by omega) (by omega) (by omega)]; exact hb k hk) hsi (by omega) hop mop
      subst e1
      exact ⟨v, B', W', ne', ec', rfl, m1, m2, m3, e2.up (by omega), by rw [mop.t0, k2], fun _ => rfl⟩
theorem jFl (h : zSM N V W nk ns ne) (hN : N < 2 ^ 20) (hnk : nk ≤ 8) (hns : ns ≤ 6) {x : Int32} (hC : cFl V nk ns x kk V' v) (hM : (fun r G1 => (zin x 0 3 = false ∧ mThr d B nk ns ne ec W G 1 r G1) ∨ (zin x 0 3 = true ∧ ∃ V1 V2 B' V' ne' ec', zKn W V1 ∧ V1 0 0 = 0 ∧ mFd V1 V2 ns x (mDn nk ns 0) ∧ mEn V2 V' ne ne' 2 x ∧ zM d B' V' nk ns ne' ec' G1 ∧ mNw B B' nk ns ne nk ns ne' G ∧ mFr B nk ns ne G G1 ∧ r = some (.int (nI (mgo V1 x nk ns))))) r G1) : zJ d N V' nk ns nk ns B ne G kk v r G1 := by
  rcases hC with ⟨a, rfl, k⟩ | ⟨a, rfl, rfl, V2, c1, c2⟩ <;> rcases hM with ⟨b, t⟩ | ⟨b, W1, W2, B', W', ne', ec', k1, k2, m1, m2, m3, m4, m5, rfl⟩
  · exact zJ.thr h k t (by decide)
  · rw [a] at b; cases b
  · rw [a] at b; cases b
  · have h1 := h.m k1
    have h2 := h1.fd hnk hns c1 m1
    have h3 := h2.en hns hnk (dy := V2 0 0) h2.1.1 c2 m2
    exact ⟨_, B', W', ne', ec', rfl, m3, m4, m5, h3.up (by omega), by rw [m2.t0, m1.1 0 (by omega) (by omega), k2], fun _ => h1.gone hN hnk⟩
theorem zHd.t0 {U U' : Nat → Nat → Int32} {si i : Nat} {cw : Int32} {nw : Nat → Int32} (h : zHd U U' si cw nw i) : U' 0 0 = U 0 0 := by rw [h.1 0 (by omega) (by omega)]
theorem jFs (h : zSM N V W nk ns ne) (hN : N < 2 ^ 20 - 1) (hnk : nk ≤ 8) (hns : ns ≤ 6) {x set : Int32} (hC : cFs V nk ns x set kk V' v) (hM : (fun r G1 => (zin x 0 (nI ns - 1) = false ∧ mThr d B nk ns ne ec W G 1 r G1) ∨ (∃ s9, s9 < ns ∧ x = nI s9 ∧ ((zsetok nk set = false ∧ mThr d B nk ns ne ec W G 2 r G1) ∨ (∃ g9, g9 < 2 ^ nk ∧ set = nI g9 ∧ ((nI (zpop 9 (mgr W s9 g9)) < W (200 + s9) 0 ∧ mThr d B nk ns ne ec W G 3 r G1) ∨ (¬ nI (zpop 9 (mgr W s9 g9)) < W (200 + s9) 0 ∧ ∃ t V1 V2 V4 V5 fc B' V' ne' ec', 1 ≤ t ∧ t ≤ 4 ∧ V1 (200 + s9) 0 = nI t ∧ zKn W V1 ∧ V1 0 0 = 0 ∧ mLk V1 V2 (zlkn (nI t) (V1 0 1) t) ∧ (∀ j, j < t → fc j = zcvn 0 (nI t) (V1 0 1) j) ∧ V4 = rset V2 (200 + s9) (zs6 (V2 (200 + s9)) (V2 (200 + s9) 3 + 1) (V2 (200 + s9) 4) (V2 (200 + s9) 5)) ∧ zHd V4 V5 s9 (nI (mgr V1 s9 g9)) (fun j => zr97 (V4 (300 + s9) j + zcN fc (nI j + 1) t t)) 8 ∧ mEn V5 V' ne ne' 1 x ∧ zM d B' V' nk ns ne' ec' G1 ∧ mNw B B' nk ns ne nk ns ne' G ∧ mFr B nk ns ne G G1 ∧ r = some (.int (nI (zpop 9 (zsetN (zst (V' (300 + s9)) (V' (400 + s9)) (V' (200 + s9) 3)) 8)))))))))) r G1) : zJ d N V' nk ns nk ns B ne G kk v r G1 := by
  have hp2 : 2 ^ nk ≤ 256 := Nat.pow_le_pow_right (n := 2) (by decide) hnk
  have ecw : ∀ si, si < ns → ∀ g, g < 256 → zbc (nI g &&& zset (zcur (V (400 + si)) (V (200 + si) 3)) 8) = nI (zpop 9 (mgr W si g)) := fun si hsi g hg => by
    have hl := mgr_lt (V := W) (si := si) (s := g)
    rw [Int32.and_comm, zset_congr (g := zgd (W (300 + si)) (W (400 + si)) (W (200 + si) 3)) 8 (fun k hk => h.cur (by omega) hsi hk), zand_N hg]
    exact zbc_512 _ (by show mgr W si g < 512; omega)
  rcases hC with ⟨a, rfl, k⟩ | ⟨si, hsi, ex, hC⟩
  · rcases hM with ⟨-, t⟩ | ⟨s9, h9, e9, -⟩
    · exact zJ.thr h k t (by decide)
    · exact absurd ⟨s9, h9, e9⟩ (zIx_1 (by omega) a)
  · rcases hM with ⟨b, -⟩ | ⟨s9, h9, e9, hM⟩
    · exact absurd ⟨si, hsi, ex⟩ (zIx_2 (by omega) b)
    · have es : s9 = si := (nI_eq (by omega) (by omega)).mp (e9.symm.trans ex)
      subst es
      have e0 : V (200 + s9) 0 = W (200 + s9) 0 := (h.2.2.1 s9 hsi).1 0 (by decide)
      rcases hC with ⟨s, rfl, k⟩ | ⟨s, c, rfl, k⟩ | ⟨s, c, rfl, hfs⟩
      · rcases hM with ⟨-, t⟩ | ⟨g, hg, eg, -⟩
        · exact zJ.thr h k t (by decide)
        · rw [eg, zset_ok hnk hg] at s; cases s
      · rcases hM with ⟨b, -⟩ | ⟨g, hg, rfl, ⟨c2, t⟩ | ⟨c2, -⟩⟩
        · rw [s] at b; cases b
        · exact zJ.thr h k t (by decide)
        · rw [ecw s9 hsi g (by omega), e0] at c
          exact absurd c c2
      · rcases hM with ⟨b, -⟩ | ⟨g, hg, rfl, ⟨c2, -⟩ | ⟨c2, t, W1, W2, W4, W5, fc, B', W', ne', ec', t1, t4, ht, k1, k2, m1, m2, m3, m4, m5, m6, m7, m8, rfl⟩⟩
        · rw [s] at b; cases b
        · rw [ecw s9 hsi g (by omega), e0] at c
          exact absurd c2 c
        · obtain ⟨e1, e2⟩ := (h.m k1).fr hN hnk hns hsi (by omega) ht t1 t4 hfs m1 m2 m3 m4 m5
          cases e2
          exact ⟨_, B', W', ne', ec', rfl, m6, m7, m8, e1, by rw [m5.t0, m4.t0, m3, rset_n (by omega), m1.1.1, k2], fun _ => rfl⟩
theorem jRb (h : zSM N V W nk ns ne) (hN : N < 2 ^ 20) (hnk : nk ≤ 8) (hns : ns ≤ 6) {x z set : Int32} (hC : cRb V nk ns x z set kk V' v) (hM : (fun r G1 => ((zin x 0 (nI ns - 1) = false ∨ zin z 0 (nI nk - 1) = false) ∧ mThr d B nk ns ne ec W G 1 r G1) ∨ (∃ s9, s9 < ns ∧ x = nI s9 ∧ ∃ k9, k9 < nk ∧ z = nI k9 ∧ ((zsetok nk set = false ∧ mThr d B nk ns ne ec W G 2 r G1) ∨ (∃ g9, g9 < 2 ^ nk ∧ set = nI g9 ∧ ∃ V1, zKn W V1 ∧ V1 0 0 = 0 ∧ (((zgd (V1 (300 + s9)) (V1 (400 + s9)) (V1 (200 + s9) 3) k9 = true ∨ (zgd (V1 (300 + s9)) (V1 (400 + s9)) (V1 (200 + s9) 3) k9 = false ∧ ∃ t, 1 ≤ t ∧ t ≤ 4 ∧ V1 (200 + s9) 0 = nI t ∧ rgd (V1 7) (mgv V1 s9) t (mgr V1 s9 g9) = false)) ∧ mThr d B nk ns ne ec W G 3 r G1) ∨ (zgd (V1 (300 + s9)) (V1 (400 + s9)) (V1 (200 + s9) 3) k9 = false ∧ ∃ B' V' ne' ec', mRb V1 V' nk ne ne' s9 k9 g9 x r ∧ zM d B' V' nk ns ne' ec' G1 ∧ mNw B B' nk ns ne nk ns ne' G ∧ mFr B nk ns ne G G1)))))) r G1) : zJ d N V' nk ns nk ns B ne G kk v r G1 := by
  have hp2 : 2 ^ nk ≤ 256 := Nat.pow_le_pow_right (n := 2) (by decide) hnk
  rcases hC with ⟨a, rfl, kp⟩ | ⟨si, hsi, ex, ki, hki, ek, hC⟩
  · rcases hM with ⟨-, t⟩ | ⟨s9, h9, e9, k9, h8, e8, -⟩
    · exact zJ.thr h kp t (by decide)
    · rcases a with a | a
      · exact absurd ⟨s9, h9, e9⟩ (zIx_1 (by omega) a)
      · exact absurd ⟨k9, h8, e8⟩ (zIx_1 (by omega) a)
  · rcases hM with ⟨b, -⟩ | ⟨s9, h9, e9, k9, h8, e8, hM⟩
    · rcases b with b | b
      · exact absurd ⟨si, hsi, ex⟩ (zIx_2 (by omega) b)
      · exact absurd ⟨ki, hki, ek⟩ (zIx_2 (by omega) b)
    · have es : s9 = si := (nI_eq (by omega) (by omega)).mp (e9.symm.trans ex)
      have es2 : k9 = ki := (nI_eq (by omega) (by omega)).mp (e8.symm.trans ek)
      subst es
      subst es2
      rcases hC with ⟨s, rfl, kp⟩ | ⟨s, c, rfl, kp⟩ | ⟨s, c, rfl, hrb⟩
      · rcases hM with ⟨-, t⟩ | ⟨g, hg, eg, -⟩
        · exact zJ.thr h kp t (by decide)
        · rw [eg, zset_ok hnk hg] at s; cases s
      · rcases hM with ⟨b, -⟩ | ⟨g, hg, rfl, W1, k1, k2, ⟨c2, t⟩ | ⟨c2, B', W', ne', ec', mrb, m1, m2, m3⟩⟩
        · rw [s] at b; cases b
        · exact zJ.thr h kp t (by decide)
        · have h1 := h.m k1
          exfalso
          rw [h1.cur hN hsi (by omega), c2] at c
          rcases c with c | ⟨-, V4, hd, hz⟩
          · cases c
          · obtain ⟨t, -, -, -, -, -, t1, t4, ht, hgd, -⟩ := mrb
            obtain ⟨-, e12, -⟩ := h1.dd hN hnk hsi (by omega) ht t1 t4 hd
            rw [e12] at hz
            have := hz.symm.trans ((zgood_rgd (inv := W1 7) (h := mgv W1 s9) mgr_lt t1 (by omega)).trans hgd)
            cases this
      · rcases hM with ⟨b, -⟩ | ⟨g, hg, rfl, W1, k1, k2, ⟨c2, t⟩ | ⟨c2, B', W', ne', ec', mrb, m1, m2, m3⟩⟩
        · rw [s] at b; cases b
        · have h1 := h.m k1
          exfalso
          rw [h1.cur hN hsi (by omega)] at c
          rcases c2 with c2 | ⟨-, t, t1, t4, ht, hgd⟩
          · rw [c] at c2; cases c2
          · obtain ⟨V4, V5, V6, hd, hz, -⟩ := hrb
            obtain ⟨-, e12, -⟩ := h1.dd hN hnk hsi (by omega) ht t1 t4 hd
            rw [e12] at hz
            have := hz.symm.trans ((zgood_rgd (inv := W1 7) (h := mgv W1 s9) mgr_lt t1 (by omega)).trans hgd)
            cases this
        · obtain ⟨e1, e2⟩ := (h.m k1).rb hN hnk hns hsi hki (by omega) hrb mrb
          subst e1
          have e0 : W' 0 0 = W1 0 0 := by
            obtain ⟨t, W4, W6, W7, W8, b0, -, -, -, -, w4, -, w6, w7, w8, rfl, -⟩ := mrb
            rw [rset_s]
            show W8 0 0 = _
            rw [w8.t0, w7.1 0 (by omega), w6, rset_n (by omega), rset_n (by omega), w4.r (r := 0) (by decide) (by decide)]
          exact ⟨v, B', W', ne', ec', rfl, m1, m2, m3, e2.up (by omega), by rw [e0, k2], fun _ => rfl⟩
end ZJ

