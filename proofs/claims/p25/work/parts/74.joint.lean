
section ZJ2
variable {d : zD} {ho : Nat} {A : Nat → Nat} {D : Nat → UInt64} {V V' : Nat → Nat → Int32} {nk ns nk' ns' : Nat} {B : Nat → Nat} {W : Nat → Nat → Int32} {N ne ec : Nat} {G G1 : zG} {r : Option Value} {kk v : Int32}
/-- what the class's other calls do -/
def cPa (V : Nat → Nat → Int32) (x kk : Int32) (V' : Nat → Nat → Int32) (v : Int32) : Prop := (zin x 1 365 = false ∧ kk = 1 ∧ V' = V) ∨ (zin x 1 365 = true ∧ 999 < V 0 0 + x ∧ kk = 2 ∧ V' = V) ∨ (zin x 1 365 = true ∧ ¬ 999 < V 0 0 + x ∧ kk = 0 ∧ V' = rset V 0 (z4 (V 0 0 + x) (V 0 1) (V 0 2) (V 0 3)) ∧ v = V 0 0 + x)
theorem cC_pass {x : Int32} (h : (fun r G1 => (zin x 1 365 = false ∧ r = some (.int 1) ∧ zT d A D V nk ns G1 ∧ zOut ho G1 ∧ lFr A nk ns ho G G1) ∨ (zin x 1 365 = true ∧ 999 < V 0 0 + x ∧ r = some (.int 2) ∧ zT d A D V nk ns G1 ∧ zOut ho G1 ∧ lFr A nk ns ho G G1) ∨ (zin x 1 365 = true ∧ ¬ 999 < V 0 0 + x ∧ r = some (.int 0) ∧ zT d A D (rset V 0 (z4 (V 0 0 + x) (V 0 1) (V 0 2) (V 0 3))) nk ns G1 ∧ zOn ho (V 0 0 + x).toInt64 G1 ∧ lFr A nk ns ho G G1)) r G1) : ∃ kk V3 v, r = some (.int kk) ∧ cPa V x kk V3 v ∧ zT d A D V3 nk ns G1 ∧ zOut ho G1 ∧ lFr A nk ns ho G G1 ∧ (kk = 0 → zOn ho v.toInt64 G1) := by
  rcases h with ⟨a, rfl, h1, h2, h3⟩ | ⟨a, b, rfl, h1, h2, h3⟩ | ⟨a, b, rfl, h1, h2, h3⟩
  · exact ⟨1, V, 0, rfl, Or.inl ⟨a, rfl, rfl⟩, h1, h2, h3, fun q => absurd q (by decide)⟩
  · exact ⟨2, V, 0, rfl, Or.inr (Or.inl ⟨a, b, rfl, rfl⟩), h1, h2, h3, fun q => absurd q (by decide)⟩
  · exact ⟨0, _, V 0 0 + x, rfl, Or.inr (Or.inr ⟨a, b, rfl, rfl, rfl⟩), h1, h2.o, h3, fun _ => h2⟩
theorem jPa (h : zSM N V W nk ns ne) {x : Int32} (hC : cPa V x kk V' v) (hM : (fun r G1 => (zin x 1 365 = false ∧ mThr d B nk ns ne ec W G 1 r G1) ∨ (zin x 1 365 = true ∧ 999 < W 0 2 + x ∧ mThr d B nk ns ne ec W G 2 r G1) ∨ (zin x 1 365 = true ∧ ¬ 999 < W 0 2 + x ∧ ∃ V1, zKn W V1 ∧ V1 0 0 = 0 ∧ zM d B (rset V1 0 (zm6 (V1 0 0) (V1 0 1) (V1 0 2 + x) (V1 0 3) (V1 0 4) (V1 0 5))) nk ns ne ec G1 ∧ mFr B nk ns ne G G1 ∧ r = some (.int (V1 0 2 + x)))) r G1) : zJ d N V' nk ns nk ns B ne G kk v r G1 := by
  have e0 := h.1.1
  rcases hC with ⟨a, rfl, rfl⟩ | ⟨a, b, rfl, rfl⟩ | ⟨a, b, rfl, rfl, rfl⟩ <;> rcases hM with ⟨c, t⟩ | ⟨c, e, t⟩ | ⟨c, e, W1, k1, k2, m1, m2, rfl⟩
  · exact zJ.thr h zKo.rf t (by decide)
  · rw [a] at c; cases c
  · rw [a] at c; cases c
  · rw [a] at c; cases c
  · exact zJ.thr h zKo.rf t (by decide)
  · rw [e0] at b; exact absurd b e
  · rw [a] at c; cases c
  · rw [e0] at b; exact absurd e b
  · have h1 := h.m k1
    have s := h1.cnt (W1 0 2 + x) (W1 0 3) (W1 0 4) (W1 0 5) (W1 0 0)
    obtain ⟨a1, a2, a3, a4, -⟩ := h1.1
    refine ⟨_, B, _, ne, ec, rfl, m1, mNw.rf, m2, ?_, by rw [rset_s]; exact k2.symm, fun _ => by rw [a1]⟩
    rw [a1, a2, a3, a4]
    exact s.up (by omega)
def cLi (V : Nat → Nat → Int32) (nk : Nat) (x w kk : Int32) (V' : Nat → Nat → Int32) (v : Int32) : Prop := (zoo nk x ∧ kk = 1 ∧ V' = V) ∨ (∃ k, k < nk ∧ x = nI k ∧ ((zin w 0 96 = false ∧ kk = 2 ∧ V' = V) ∨ (zin w 0 96 = true ∧ kk = 0 ∧ V' = rset V (100 + k) (upd (V (100 + k)) 4 w) ∧ v = V (100 + k) 4)))
theorem cC_lie {x w : Int32} (h : (fun r G1 => ((x < 0 ∨ nI nk ≤ x) ∧ r = some (.int 1) ∧ zT d A D V nk ns G1 ∧ zOut ho G1 ∧ lFr A nk ns ho G G1) ∨ ((∃ k, k < nk ∧ x = nI k) ∧ zin w 0 96 = false ∧ r = some (.int 2) ∧ zT d A D V nk ns G1 ∧ zOut ho G1 ∧ lFr A nk ns ho G G1) ∨ (∃ k, k < nk ∧ x = nI k ∧ zin w 0 96 = true ∧ r = some (.int 0) ∧ zT d A D (rset V (100 + k) (upd (V (100 + k)) 4 w)) nk ns G1 ∧ zOn ho (V (100 + k) 4).toInt64 G1 ∧ lFr A nk ns ho G G1)) r G1) : ∃ kk V3 v, r = some (.int kk) ∧ cLi V nk x w kk V3 v ∧ zT d A D V3 nk ns G1 ∧ zOut ho G1 ∧ lFr A nk ns ho G G1 ∧ (kk = 0 → zOn ho v.toInt64 G1) := by
  rcases h with ⟨a, rfl, h1, h2, h3⟩ | ⟨⟨k, hk, ex⟩, b, rfl, h1, h2, h3⟩ | ⟨k, hk, ex, b, rfl, h1, h2, h3⟩
  · exact ⟨1, V, 0, rfl, Or.inl ⟨a, rfl, rfl⟩, h1, h2, h3, fun q => absurd q (by decide)⟩
  · exact ⟨2, V, 0, rfl, Or.inr ⟨k, hk, ex, Or.inl ⟨b, rfl, rfl⟩⟩, h1, h2, h3, fun q => absurd q (by decide)⟩
  · exact ⟨0, _, V (100 + k) 4, rfl, Or.inr ⟨k, hk, ex, Or.inr ⟨b, rfl, rfl, rfl⟩⟩, h1, h2.o, h3, fun _ => h2⟩
theorem jLi (h : zSM N V W nk ns ne) (hnk : nk ≤ 8) (hns : ns ≤ 6) {x w : Int32} (hC : cLi V nk x w kk V' v) (hM : (fun r G1 => (zin x 0 (nI nk - 1) = false ∧ mThr d B nk ns ne ec W G 1 r G1) ∨ (∃ k, k < nk ∧ x = nI k ∧ ((zin w 0 96 = false ∧ mThr d B nk ns ne ec W G 2 r G1) ∨ (zin w 0 96 = true ∧ ∃ V1, zKn W V1 ∧ V1 0 0 = 0 ∧ zM d B (rset V1 (100 + k) (zk5 (V1 (100 + k)) w (V1 (100 + k) 4))) nk ns ne ec G1 ∧ mFr B nk ns ne G G1 ∧ r = some (.int (V1 (100 + k) 3)))))) r G1) : zJ d N V' nk ns nk ns B ne G kk v r G1 := by
  rcases hC with ⟨a, rfl, rfl⟩ | ⟨k, hk, ex, hC⟩
  · rcases hM with ⟨-, t⟩ | ⟨k9, h9, e9, -⟩
    · exact zJ.thr h zKo.rf t (by decide)
    · exact absurd ⟨k9, h9, e9⟩ (zIx_1 (by omega) a)
  · rcases hM with ⟨b, -⟩ | ⟨k9, h9, e9, hM⟩
    · exact absurd ⟨k, hk, ex⟩ (zIx_2 (by omega) b)
    · have es : k9 = k := (nI_eq (by omega) (by omega)).mp (e9.symm.trans ex)
      subst es
      rcases hC with ⟨s, rfl, rfl⟩ | ⟨s, rfl, rfl, rfl⟩ <;> rcases hM with ⟨c, t⟩ | ⟨c, W1, k1, k2, m1, m2, rfl⟩
      · exact zJ.thr h zKo.rf t (by decide)
      · rw [s] at c; cases c
      · rw [s] at c; cases c
      · have h1 := h.m k1
        exact ⟨_, B, _, ne, ec, rfl, m1, mNw.rf, m2, (h1.li hnk hns hk s).up (by omega), by rw [rset_n (by omega)]; exact k2.symm, fun _ => (h1.2.1 k9 hk).1.2.2.2.1⟩
def cKe (V : Nat → Nat → Int32) (nk : Nat) (x z w kk : Int32) (V' : Nat → Nat → Int32) (nk' : Nat) (v : Int32) : Prop := (zkok x z w = false ∧ kk = 1 ∧ V' = V ∧ nk' = nk) ∨ (zkok x z w = true ∧ nk = 8 ∧ kk = 2 ∧ V' = V ∧ nk' = nk) ∨ (zkok x z w = true ∧ nk < 8 ∧ kk = 0 ∧ V' = rset (rset V (100 + nk) (z6k (nI nk) x z w)) 1 (fun _ => V 1 0 + 1) ∧ nk' = nk + 1 ∧ v = nI nk)
theorem cC_keeper {x z w : Int32} (h : (fun r G1 => (zkok x z w = false ∧ r = some (.int 1) ∧ zT d A D V nk ns G1 ∧ zOut ho G1 ∧ lFr A nk ns ho G G1) ∨ (zkok x z w = true ∧ nk = 8 ∧ r = some (.int 2) ∧ zT d A D V nk ns G1 ∧ zOut ho G1 ∧ lFr A nk ns ho G G1) ∨ (zkok x z w = true ∧ nk < 8 ∧ r = some (.int 0) ∧ ∃ A', zNw A A' nk ns (nk + 1) ns G ∧ zT d A' D (rset (rset V (100 + nk) (z6k (nI nk) x z w)) 1 (fun _ => V 1 0 + 1)) (nk + 1) ns G1 ∧ zOn ho (nI nk).toInt64 G1 ∧ lFr A nk ns ho G G1)) r G1) : ∃ kk A3 V3 nk3 v, r = some (.int kk) ∧ cKe V nk x z w kk V3 nk3 v ∧ zT d A3 D V3 nk3 ns G1 ∧ zNw A A3 nk ns nk3 ns G ∧ zOut ho G1 ∧ lFr A nk ns ho G G1 ∧ (kk = 0 → zOn ho v.toInt64 G1) := by
  rcases h with ⟨a, rfl, h1, h2, h3⟩ | ⟨a, b, rfl, h1, h2, h3⟩ | ⟨a, b, rfl, A3, h0, h1, h2, h3⟩
  · exact ⟨1, A, V, nk, 0, rfl, Or.inl ⟨a, rfl, rfl, rfl⟩, h1, zNw.rf, h2, h3, fun q => absurd q (by decide)⟩
  · exact ⟨2, A, V, nk, 0, rfl, Or.inr (Or.inl ⟨a, b, rfl, rfl, rfl⟩), h1, zNw.rf, h2, h3, fun q => absurd q (by decide)⟩
  · exact ⟨0, A3, _, nk + 1, nI nk, rfl, Or.inr (Or.inr ⟨a, b, rfl, rfl, rfl, rfl⟩), h1, h0, h2.o, h3, fun _ => h2⟩
theorem jKe (h : zSM N V W nk ns ne) (hnk : nk ≤ 8) (hns : ns ≤ 6) {x z w : Int32} (hC : cKe V nk x z w kk V' nk' v) (hM : (fun r G1 => (zkok x z w = false ∧ mThr d B nk ns ne ec W G 1 r G1) ∨ (zkok x z w = true ∧ nk = 8 ∧ mThr d B nk ns ne ec W G 2 r G1) ∨ (zkok x z w = true ∧ nk < 8 ∧ r = some (.int (nI nk)) ∧ ∃ V1, zKn W V1 ∧ V1 0 0 = 0 ∧ ∃ B' mc, zM d B' (rset (rset V1 (100 + nk) (zw5 x z w 0 0)) 1 (fun _ => mc)) (nk + 1) ns ne ec G1 ∧ mNw B B' nk ns ne (nk + 1) ns ne G ∧ mFr B nk ns ne G G1)) r G1) : zJ d N V' nk ns nk' ns B ne G kk v r G1 := by
  rcases hC with ⟨a, rfl, rfl, rfl⟩ | ⟨a, b, rfl, rfl, rfl⟩ | ⟨a, b, rfl, rfl, rfl, rfl⟩ <;> rcases hM with ⟨c, t⟩ | ⟨c, e, t⟩ | ⟨c, e, rfl, W1, k1, k2, B3, mc, m1, m2, m3⟩
  · exact zJ.thr h zKo.rf t (by decide)
  · rw [a] at c; cases c
  · rw [a] at c; cases c
  · rw [a] at c; cases c
  · exact zJ.thr h zKo.rf t (by decide)
  · omega
  · rw [a] at c; cases c
  · omega
  · exact ⟨_, B3, _, ne, ec, rfl, m1, m2, m3, ((h.m k1).kp b hns a).up (by omega), by rw [rset_n (by decide), rset_n (by omega)]; exact k2.symm, fun _ => rfl⟩
def cDe (V : Nat → Nat → Int32) (nk ns : Nat) (x t z dt set kk : Int32) (V' : Nat → Nat → Int32) (ns' : Nat) (v : Int32) : Prop := (zdok nk x t z dt set = false ∧ kk = 1 ∧ V' = V ∧ ns' = ns) ∨ (zdok nk x t z dt set = true ∧ ns = 6 ∧ kk = 2 ∧ V' = V ∧ ns' = ns) ∨ (zdok nk x t z dt set = true ∧ ns < 6 ∧ kk = 0 ∧ zDl V V' ns x t z dt set ∧ ns' = ns + 1 ∧ v = nI ns)
theorem cC_deal {x t z dt set : Int32} (h : (fun r G1 => (zdok nk x t z dt set = false ∧ r = some (.int 1) ∧ zT d A D V nk ns G1 ∧ zOut ho G1 ∧ lFr A nk ns ho G G1) ∨ (zdok nk x t z dt set = true ∧ ns = 6 ∧ r = some (.int 2) ∧ zT d A D V nk ns G1 ∧ zOut ho G1 ∧ lFr A nk ns ho G G1) ∨ (zdok nk x t z dt set = true ∧ ns < 6 ∧ r = some (.int 0) ∧ ∃ A' V', zNw A A' nk ns nk (ns + 1) G ∧ zT d A' D V' nk (ns + 1) G1 ∧ zDl V V' ns x t z dt set ∧ zOn ho (nI ns).toInt64 G1 ∧ lFr A nk ns ho G G1)) r G1) : ∃ kk A3 V3 ns3 v, r = some (.int kk) ∧ cDe V nk ns x t z dt set kk V3 ns3 v ∧ zT d A3 D V3 nk ns3 G1 ∧ zNw A A3 nk ns nk ns3 G ∧ zOut ho G1 ∧ lFr A nk ns ho G G1 ∧ (kk = 0 → zOn ho v.toInt64 G1) := by
  rcases h with ⟨a, rfl, h1, h2, h3⟩ | ⟨a, b, rfl, h1, h2, h3⟩ | ⟨a, b, rfl, A3, V3, h0, h1, h4, h2, h3⟩
  · exact ⟨1, A, V, ns, 0, rfl, Or.inl ⟨a, rfl, rfl, rfl⟩, h1, zNw.rf, h2, h3, fun q => absurd q (by decide)⟩
  · exact ⟨2, A, V, ns, 0, rfl, Or.inr (Or.inl ⟨a, b, rfl, rfl, rfl⟩), h1, zNw.rf, h2, h3, fun q => absurd q (by decide)⟩
  · exact ⟨0, A3, V3, ns + 1, nI ns, rfl, Or.inr (Or.inr ⟨a, b, rfl, h4, rfl, rfl⟩), h1, h0, h2.o, h3, fun _ => h2⟩
theorem jDe (h : zSM N V W nk ns ne) (hnk : nk ≤ 8) (hns : ns ≤ 6) {x t z dt set : Int32} (hC : cDe V nk ns x t z dt set kk V' ns' v) (hM : (fun r G1 => (zdok nk x t z dt set = false ∧ mThr d B nk ns ne ec W G 1 r G1) ∨ (zdok nk x t z dt set = true ∧ ns = 6 ∧ mThr d B nk ns ne ec W G 2 r G1) ∨ (zdok nk x t z dt set = true ∧ ns < 6 ∧ r = some (.int (nI ns)) ∧ ∃ t9, 1 ≤ t9 ∧ t9 ≤ 4 ∧ t = nI t9 ∧ ∃ V1 B' V' ne' ec', zKn W V1 ∧ V1 0 0 = 0 ∧ mDl V1 V' ns ne ne' t9 x z dt set ∧ zM d B' V' nk (ns + 1) ne' ec' G1 ∧ mNw B B' nk ns ne nk (ns + 1) ne' G ∧ mFr B nk ns ne G G1)) r G1) : zJ d N V' nk ns nk ns' B ne G kk v r G1 := by
  rcases hC with ⟨a, rfl, rfl, rfl⟩ | ⟨a, b, rfl, rfl, rfl⟩ | ⟨a, b, rfl, hd, rfl, rfl⟩ <;> rcases hM with ⟨c, q⟩ | ⟨c, e, q⟩ | ⟨c, e, rfl, t9, t1, t4, et, W1, B3, W3, ne3, ec3, k1, k2, md, m1, m2, m3⟩
  · exact zJ.thr h zKo.rf q (by decide)
  · rw [a] at c; cases c
  · rw [a] at c; cases c
  · rw [a] at c; cases c
  · exact zJ.thr h zKo.rf q (by decide)
  · omega
  · rw [a] at c; cases c
  · omega
  · have a9 := a
    unfold zdok at a9
    simp only [Bool.and_eq_true] at a9
    obtain ⟨x1, x2, x3, x4, x5, x6⟩ := a9
    obtain ⟨xn, hxn, exn⟩ := zin_l (n := 96) x1 (by decide)
    obtain ⟨g, hg, eg⟩ := zsetok_le hnk x5
    subst et
    subst eg
    have e0 : W3 0 0 = W1 0 0 := by
      obtain ⟨W2, fc, q1, q2, mc, y1, y2, y3, y4⟩ := md
      rw [y4.t0, rset_n (by decide), rset_n (by omega), rset_n (by omega), rset_n (by omega), y1.1.1]
    exact ⟨_, B3, W3, ne3, ec3, rfl, m1, m2, m3, ((h.m k1).dl hnk b t1 t4 (by omega) exn hg hd md).up (by omega), by rw [e0, k2], fun _ => rfl⟩
def cFz (V : Nat → Nat → Int32) (ns : Nat) (x w x3 kk : Int32) (V' : Nat → Nat → Int32) (v : Int32) : Prop := ((zin x 0 1 = false ∨ zoo ns w) ∧ kk = 1 ∧ V' = V) ∨ (zin x 0 1 = true ∧ ∃ k, k < ns ∧ w = nI k ∧ kk = 0 ∧ V' = rset V (200 + k) (z6 (V (200 + k)) (V (200 + k) 3) (if x3 = 0 then V (200 + k) 4 &&& ((1 <<< (x &&& 31)) ^^^ (-1)) else V (200 + k) 4 ||| (1 <<< (x &&& 31))) (V (200 + k) 5)) ∧ v = zbc (if x3 = 0 then V (200 + k) 4 &&& ((1 <<< (x &&& 31)) ^^^ (-1)) else V (200 + k) 4 ||| (1 <<< (x &&& 31))))
theorem cC_freeze {x w x3 : Int32} (h : (fun r G1 => ((zin x 0 1 = false ∨ w < 0 ∨ nI ns ≤ w) ∧ r = some (.int 1) ∧ zT d A D V nk ns G1 ∧ zOut ho G1 ∧ lFr A nk ns ho G G1) ∨ (∃ k, k < ns ∧ w = nI k ∧ zin x 0 1 = true ∧ r = some (.int 0) ∧ zT d A D (rset V (200 + k) (z6 (V (200 + k)) (V (200 + k) 3) (if x3 = 0 then V (200 + k) 4 &&& ((1 <<< (x &&& 31)) ^^^ (-1)) else V (200 + k) 4 ||| (1 <<< (x &&& 31))) (V (200 + k) 5))) nk ns G1 ∧ zOn ho (zbc (if x3 = 0 then V (200 + k) 4 &&& ((1 <<< (x &&& 31)) ^^^ (-1)) else V (200 + k) 4 ||| (1 <<< (x &&& 31)))).toInt64 G1 ∧ lFr A nk ns ho G G1)) r G1) : ∃ kk V3 v, r = some (.int kk) ∧ cFz V ns x w x3 kk V3 v ∧ zT d A D V3 nk ns G1 ∧ zOut ho G1 ∧ lFr A nk ns ho G G1 ∧ (kk = 0 → zOn ho v.toInt64 G1) := by
  rcases h with ⟨a, rfl, h1, h2, h3⟩ | ⟨k, hk, ex, b, rfl, h1, h2, h3⟩
  · exact ⟨1, V, 0, rfl, Or.inl ⟨a, rfl, rfl⟩, h1, h2, h3, fun q => absurd q (by decide)⟩
  · exact ⟨0, _, _, rfl, Or.inr ⟨b, k, hk, ex, rfl, rfl, rfl⟩, h1, h2.o, h3, fun _ => h2⟩
theorem jFz (h : zSM N V W nk ns ne) (hnk : nk ≤ 8) (hns : ns ≤ 6) {x w x3 x4 : Int32} (h34 : x3 = x4) (hC : cFz V ns x w x4 kk V' v) (hM : (fun r G1 => ((zin x 0 1 = false ∨ zin w 0 (nI ns - 1) = false) ∧ mThr d B nk ns ne ec W G 1 r G1) ∨ (zin x 0 1 = true ∧ ∃ k, k < ns ∧ w = nI k ∧ ∃ V1, zKn W V1 ∧ V1 0 0 = 0 ∧ zM d B (rset V1 (200 + k) (zs6 (V1 (200 + k)) (V1 (200 + k) 3) (if x3 = 0 then V1 (200 + k) 4 &&& ((1 <<< (x &&& 31)) ^^^ (-1)) else V1 (200 + k) 4 ||| (1 <<< (x &&& 31))) (V1 (200 + k) 5))) nk ns ne ec G1 ∧ mFr B nk ns ne G G1 ∧ ∃ v, r = some (.int v) ∧ ∀ n, n < 512 → (if x3 = 0 then V1 (200 + k) 4 &&& ((1 <<< (x &&& 31)) ^^^ (-1)) else V1 (200 + k) 4 ||| (1 <<< (x &&& 31))) = nI n → v = nI (zpop 9 n))) r G1) : zJ d N V' nk ns nk ns B ne G kk v r G1 := by
  subst h34
  rcases hC with ⟨a, rfl, rfl⟩ | ⟨a, k, hk, ex, rfl, rfl, rfl⟩
  · rcases hM with ⟨-, t⟩ | ⟨c, k9, h9, e9, -⟩
    · exact zJ.thr h zKo.rf t (by decide)
    · rcases a with a | a
      · rw [a] at c; cases c
      · exact absurd ⟨k9, h9, e9⟩ (zIx_1 (by omega) a)
  · rcases hM with ⟨c | c, -⟩ | ⟨c, k9, h9, e9, W1, k1, k2, m1, m2, bb, rfl, m3⟩
    · rw [a] at c; cases c
    · exact absurd ⟨k, hk, ex⟩ (zIx_2 (by omega) c)
    · have es : k9 = k := (nI_eq (by omega) (by omega)).mp (e9.symm.trans ex)
      subst es
      have h1 := h.m k1
      obtain ⟨s1, ⟨f, hf, ef⟩, -⟩ := h1.2.2.1 k9 hk
      obtain ⟨q2, hq2, ez⟩ := zfz (x3 := x3) hf ef a
      have e4 := s1 4 (by decide)
      refine ⟨bb, B, _, ne, ec, rfl, m1, mNw.rf, m2, ?_, by rw [rset_n (by omega)]; exact k2.symm, fun _ => ?_⟩
      · rw [← e4]
        exact (h1.fz hnk hns hk ⟨q2, hq2, ez⟩).up (by omega)
      · rw [ez, m3 q2 (by omega) (by rw [← e4]; exact ez), zbc_512 q2 (by omega)]
/-- knock -/
theorem jKn (h : zSM N V W nk ns ne) {W1 : Nat → Nat → Int32} (k1 : zKn W W1) : V 0 1 + 1 = W1 0 3 + 1 ∧ zSM (N + 1) (rset V 0 (z4 (V 0 0) (V 0 1 + 1) (V 0 2) (V 0 3))) (rset W1 0 (zm6 (W1 0 0) (W1 0 1) (W1 0 2) (W1 0 3 + 1) (W1 0 4) (W1 0 5))) nk ns ne := by
  have h1 := h.m k1
  obtain ⟨a1, a2, a3, a4, -⟩ := h1.1
  refine ⟨by rw [a2], ?_⟩
  rw [a1, a2, a3, a4]
  exact (h1.cnt (W1 0 2) (W1 0 3 + 1) (W1 0 4) (W1 0 5) (W1 0 0)).up (by omega)
end ZJ2

