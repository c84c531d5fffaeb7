
/-! the law's two worlds, beside each other -/
def zL (d : zD) (ho : Nat) (A : Nat → Nat) (D : Nat → UInt64) (V : Nat → Nat → Int32) (nk ns : Nat) (B : Nat → Nat) (W : Nat → Nat → Int32) (nk2 ns2 ne ec : Nat) (G : zG) : Prop := zT d A D V nk ns G ∧ zM d B W nk2 ns2 ne ec G ∧ (∀ r q, tlive nk ns r → mlive nk2 ns2 ne q → A r ≠ B q) ∧ zOut ho G ∧ (∀ r, tlive nk ns r → A r ≠ ho) ∧ (∀ q, mlive nk2 ns2 ne q → B q ≠ ho)
theorem zNw.rf {A : Nat → Nat} {nk ns : Nat} {G : zG} : zNw A A nk ns nk ns G := ⟨rfl, fun r hr => Or.inl ⟨r, hr, rfl⟩⟩
section ZLL
variable {d : zD} {ho : Nat} {A A' : Nat → Nat} {D D' : Nat → UInt64} {V V' : Nat → Nat → Int32} {nk ns nk' ns' : Nat} {B B' : Nat → Nat} {W W' : Nat → Nat → Int32} {nk2 ns2 ne ec nk2' ns2' ne' ec' : Nat} {G G1 : zG}
theorem zL.t (h : zL d ho A D V nk ns B W nk2 ns2 ne ec G) : zT d A D V nk ns G := h.1
theorem zL.m (h : zL d ho A D V nk ns B W nk2 ns2 ne ec G) : zM d B W nk2 ns2 ne ec G := h.2.1
theorem zL.o (h : zL d ho A D V nk ns B W nk2 ns2 ne ec G) : zOut ho G := h.2.2.2.1
theorem zL.o1 (h : zL d ho A D V nk ns B W nk2 ns2 ne ec G) : ∀ r, tlive nk ns r → A r ≠ ho := h.2.2.2.2.1
/-- the class's step -/
theorem zL.cls (h : zL d ho A D V nk ns B W nk2 ns2 ne ec G) (hT : zT d A' D' V' nk' ns' G1) (hN : zNw A A' nk ns nk' ns' G) (hO : zOut ho G1) (hF : lFr A nk ns ho G G1) : zL d ho A' D' V' nk' ns' B W nk2 ns2 ne ec G1 := by
  obtain ⟨h1, h2, h3, ⟨n, x, y, h4⟩, h5, h6⟩ := h
  refine ⟨hT, ⟨⟨h2.1.1, fun q hq => hF _ _ (h2.1.2 q hq) (fun r hr e => h3 r q hr hq e.symm) (h6 q hq)⟩, h2.2⟩, fun r q hr hq e => ?_, hO, hN.ho h5 h4, h6⟩
  rcases hN.2 r hr with ⟨p, hp, e2⟩ | e2
  · exact h3 p q hp hq (e2.symm.trans e)
  · rw [e, h2.1.2 q hq] at e2; cases e2
theorem zL.out (h : zL d ho A D V nk ns B W nk2 ns2 ne ec G) (hF : tFr A nk ns G G1) : zOut ho G1 := by
  obtain ⟨n, x, y, e⟩ := h.o
  exact ⟨n, x, y, hF _ _ e (fun r hr => (h.o1 r hr).symm)⟩
/-- the reference's step -/
theorem zL.mod (h : zL d ho A D V nk ns B W nk2 ns2 ne ec G) (hM : zM d B' W' nk2' ns2' ne' ec' G1) (hN : mNw B B' nk2 ns2 ne nk2' ns2' ne' G) (hF : mFr B nk2 ns2 ne G G1) : zL d ho A D V nk ns B' W' nk2' ns2' ne' ec' G1 := by
  obtain ⟨h1, h2, h3, ⟨n, x, y, h4⟩, h5, h6⟩ := h
  refine ⟨⟨⟨h1.1.1, fun r hr => hF _ _ (h1.1.2 r hr) (fun q hq => h3 r q hr hq)⟩, h1.2⟩, hM, fun r q hr hq e => ?_, ⟨n, x, y, hF _ _ h4 (fun q hq => (h6 q hq).symm)⟩, h5, fun q hq e => ?_⟩
  · rcases hN.2 q hq with ⟨p, hp, e2⟩ | e2
    · exact h3 r p hr hp (e.trans e2)
    · rw [← e, h1.1.2 r hr] at e2; cases e2
  · rcases hN.2 q hq with ⟨p, hp, e2⟩ | e2
    · exact h6 p hp (e2.symm.trans e)
    · rw [e, h4] at e2; cases e2
theorem zL.on {n : Int64} (hN : zOn ho n G) (h : zL d ho A D V nk ns B W nk2 ns2 ne ec G) (hF : mFr B nk2 ns2 ne G G1) : zOn ho n G1 := by
  obtain ⟨x, y, e⟩ := hN
  exact ⟨x, y, hF _ _ e (fun q hq => (h.2.2.2.2.2 q hq).symm)⟩
theorem zOn.o {n : Int64} (h : zOn ho n G) : zOut ho G := by
  obtain ⟨x, y, e⟩ := h
  exact ⟨n, x, y, e⟩
/-- what is alike on both sides: the day, the lies, the frozen -/
def zLI (V W : Nat → Nat → Int32) (nk ns : Nat) : Prop := V 0 0 = W 0 2 ∧ (∀ k, k < nk → V (100 + k) 4 = W (100 + k) 3) ∧ ∀ i, i < ns → V (200 + i) 4 = W (200 + i) 4 ∧ ∃ q, q < 4 ∧ V (200 + i) 4 = nI q
theorem zLI.w (h : zLI V W nk ns) (hk : nk ≤ 8) (hs : ns ≤ 6) (h1 : zKo V V') (h2 : zKn W W') : zLI V' W' nk ns := by
  refine ⟨by rw [h1 0 0 (Or.inl ⟨rfl, rfl⟩), h2 0 2 (Or.inl ⟨rfl, Or.inr rfl⟩) (by decide)]; exact h.1, fun k hq => ?_, fun i hi => ?_⟩
  · rw [h1 (100 + k) 4 (by unfold zob_; omega), h2 (100 + k) 3 (by unfold zmo_; omega) (by omega)]; exact h.2.1 k hq
  · rw [h1 (200 + i) 4 (by unfold zob_; omega), h2 (200 + i) 4 (by unfold zmo_; omega) (by omega)]; exact h.2.2 i hi
/-- the law between two calls -/
def zLaw (d : zD) (ho x1 x2 : Nat) (G : zG) : Prop := ∃ (A : Nat → Nat) (D : Nat → UInt64) (V : Nat → Nat → Int32) (nk ns : Nat) (B : Nat → Nat) (W : Nat → Nat → Int32) (ne ec : Nat), A 0 = x1 ∧ B 0 = x2 ∧ zL d ho A D V nk ns B W nk ns ne ec G ∧ zLI V W nk ns
theorem zL.bk (h : zL d ho A D V nk ns B W nk ns ne ec G) : nk ≤ 8 ∧ ns ≤ 6 := ⟨h.1.2.1, h.1.2.2.1⟩
end ZLL
theorem lw_bnd {N j : Nat} (h : ¬ nI N - nI 6 < nI (6 * j)) (hN : N ≤ 3072) (hj : j ≤ 600) : 6 * j + 6 ≤ N := by
  have h1 := pk_sub_toInt (a := N) (b := 6) (by omega) (by decide)
  rw [Int32.lt_iff_toInt_lt, h1, nI_toInt (by omega)] at h
  omega
/-- frozen, told for both -/
theorem zfz {f x x3 : Int32} {q : Nat} (hq : q < 4) (hf : f = nI q) (hx : zin x 0 1 = true) : ∃ q2, q2 < 4 ∧ (if x3 = 0 then f &&& ((1 <<< (x &&& 31)) ^^^ (-1)) else f ||| (1 <<< (x &&& 31))) = nI q2 := by
  subst hf
  have hx2 : x = 0 ∨ x = 1 := by
    simp only [zin, Bool.and_eq_true, decide_eq_true_eq, Int32.le_iff_toInt_le, ← Int32.toInt_inj, Int32.reduceToInt] at *
    omega
  have key : ∀ q, q < 4 → (∃ q2, q2 < 4 ∧ nI q &&& ((1 <<< ((0 : Int32) &&& 31)) ^^^ (-1)) = nI q2) ∧ (∃ q2, q2 < 4 ∧ nI q &&& ((1 <<< ((1 : Int32) &&& 31)) ^^^ (-1)) = nI q2) ∧ (∃ q2, q2 < 4 ∧ nI q ||| (1 <<< ((0 : Int32) &&& 31)) = nI q2) ∧ ∃ q2, q2 < 4 ∧ nI q ||| (1 <<< ((1 : Int32) &&& 31)) = nI q2 := by decide +kernel
  obtain ⟨k1, k2, k3, k4⟩ := key q hq
  by_cases h3 : x3 = 0
  · simp only [if_pos h3]
    rcases hx2 with rfl | rfl
    · exact k1
    · exact k2
  · simp only [if_neg h3]
    rcases hx2 with rfl | rfl
    · exact k3
    · exact k4
section ZLW
variable {g0 : State} {d : zD} {y : MethodName} {cc : ByteArray} {nL : Nat} {ret : Option FieldType} {tb : List ExceptionTableEntry} {p : Program} {l : Launch} {e : Env} {R : Room} {s : State} {m : MethodId} {args : Array Value} {below : List Frame} {meth : Method} {c : Code} {Q : State → Prop} {cells slots : Nat} {G : zG} {L : List (Nat × Value)} {st : List Value} {pc : Nat}
theorem z_lcmp {a b : Int64} (hd : decode cc pc = .ok (.lcmp, 1)) (k : Z g0 d y cc nL ret tb p l e R s m args below meth c Q cells slots G L (.int (lg_cmp a b) :: st) (pc + 1)) : Z g0 d y cc nL ret tb p l e R s m args below meth c Q cells slots G L (.long b :: .long a :: st) pc := fun hc H locs ls hP hS hl => W.lcmp hc.x hc.b hd (k hc H locs ls hP hS hl)
end ZLW


/-! what the five calls that change what is alike do, in the same words on both sides -/
def pRes (x dy kk dy' : Int32) : Prop := (zin x 1 365 = false ∧ kk = 1 ∧ dy' = dy) ∨ (zin x 1 365 = true ∧ 999 < dy + x ∧ kk = 2 ∧ dy' = dy) ∨ (zin x 1 365 = true ∧ ¬ 999 < dy + x ∧ kk = 0 ∧ dy' = dy + x)
theorem pRes.u {x dy k1 d1 k2 d2 : Int32} (h1 : pRes x dy k1 d1) (h2 : pRes x dy k2 d2) : k1 = k2 ∧ d1 = d2 := by
  rcases h1 with ⟨a, rfl, rfl⟩ | ⟨a, b, rfl, rfl⟩ | ⟨a, b, rfl, rfl⟩ <;> rcases h2 with ⟨c, rfl, rfl⟩ | ⟨c, e, rfl, rfl⟩ | ⟨c, e, rfl, rfl⟩ <;> first | exact ⟨rfl, rfl⟩ | exact absurd (a.symm.trans c) (by decide) | exact absurd b e | exact absurd e b
def kRes (nk : Nat) (x z w kk : Int32) (nk' : Nat) : Prop := (zkok x z w = false ∧ kk = 1 ∧ nk' = nk) ∨ (zkok x z w = true ∧ nk = 8 ∧ kk = 2 ∧ nk' = nk) ∨ (zkok x z w = true ∧ nk < 8 ∧ kk = 0 ∧ nk' = nk + 1)
theorem kRes.u {nk n1 n2 : Nat} {x z w k1 k2 : Int32} (h1 : kRes nk x z w k1 n1) (h2 : kRes nk x z w k2 n2) : k1 = k2 ∧ n1 = n2 := by
  rcases h1 with ⟨a, rfl, rfl⟩ | ⟨a, b, rfl, rfl⟩ | ⟨a, b, rfl, rfl⟩ <;> rcases h2 with ⟨c, rfl, rfl⟩ | ⟨c, e, rfl, rfl⟩ | ⟨c, e, rfl, rfl⟩ <;> first | exact ⟨rfl, rfl⟩ | exact absurd (a.symm.trans c) (by decide) | omega
def dRes (nk ns : Nat) (x t z dt set kk : Int32) (ns' : Nat) : Prop := (zdok nk x t z dt set = false ∧ kk = 1 ∧ ns' = ns) ∨ (zdok nk x t z dt set = true ∧ ns = 6 ∧ kk = 2 ∧ ns' = ns) ∨ (zdok nk x t z dt set = true ∧ ns < 6 ∧ kk = 0 ∧ ns' = ns + 1)
theorem dRes.u {nk ns n1 n2 : Nat} {x t z dt set k1 k2 : Int32} (h1 : dRes nk ns x t z dt set k1 n1) (h2 : dRes nk ns x t z dt set k2 n2) : k1 = k2 ∧ n1 = n2 := by
  rcases h1 with ⟨a, rfl, rfl⟩ | ⟨a, b, rfl, rfl⟩ | ⟨a, b, rfl, rfl⟩ <;> rcases h2 with ⟨c, rfl, rfl⟩ | ⟨c, e, rfl, rfl⟩ | ⟨c, e, rfl, rfl⟩ <;> first | exact ⟨rfl, rfl⟩ | exact absurd (a.symm.trans c) (by decide) | omega
def zIx (n : Nat) (x : Int32) : Prop := ∃ k, k < n ∧ x = nI k
theorem zIx_1 {n : Nat} {x : Int32} (hn : n < 100) (h : x < 0 ∨ nI n ≤ x) : ¬ zIx n x := fun ⟨k, hk, e⟩ => by
  subst e
  rcases h with h | h
  · exact nI_pos (by omega) h
  · have := (nI_leI (a := n) (b := k) (by omega) (by omega)).mp h; omega
theorem zIx_2 {n : Nat} {x : Int32} (hn : n < 100) (h : zin x 0 (nI n - 1) = false) : ¬ zIx n x := fun ⟨k, hk, e⟩ => by
  subst e
  have h1 : zin (nI k) 0 (nI n - 1) = true := by
    rw [nI_s1 (by omega) (by omega)]
    simp only [zin, Bool.and_eq_true, decide_eq_true_eq]
    exact ⟨nI_pos' (by omega), (nI_leI (by omega) (by omega)).mpr (by omega)⟩
  rw [h] at h1; cases h1
def lRes (nk : Nat) (x w kk : Int32) : Prop := (¬ zIx nk x ∧ kk = 1) ∨ (zIx nk x ∧ zin w 0 96 = false ∧ kk = 2) ∨ (zIx nk x ∧ zin w 0 96 = true ∧ kk = 0)
theorem lRes.u {nk : Nat} {x w k1 k2 : Int32} (h1 : lRes nk x w k1) (h2 : lRes nk x w k2) : k1 = k2 := by
  rcases h1 with ⟨a, rfl⟩ | ⟨a, b, rfl⟩ | ⟨a, b, rfl⟩ <;> rcases h2 with ⟨c, rfl⟩ | ⟨c, e, rfl⟩ | ⟨c, e, rfl⟩ <;> first | rfl | exact absurd c a | exact absurd a c | exact absurd (b.symm.trans e) (by decide)
def fRes (ns : Nat) (x w kk : Int32) : Prop := ((zin x 0 1 = false ∨ ¬ zIx ns w) ∧ kk = 1) ∨ (zin x 0 1 = true ∧ zIx ns w ∧ kk = 0)
theorem fRes.u {ns : Nat} {x w k1 k2 : Int32} (h1 : fRes ns x w k1) (h2 : fRes ns x w k2) : k1 = k2 := by
  rcases h1 with ⟨a, rfl⟩ | ⟨a, b, rfl⟩ <;> rcases h2 with ⟨c, rfl⟩ | ⟨c, e, rfl⟩ <;> first | rfl | exact (c.elim (fun q => absurd (a.symm.trans q) (by decide)) (fun q => absurd b q)) | exact (a.elim (fun q => absurd (c.symm.trans q) (by decide)) (fun q => absurd e q))
def zFz (x x3 f : Int32) : Int32 := if x3 = 0 then f &&& ((1 <<< (x &&& 31)) ^^^ (-1)) else f ||| (1 <<< (x &&& 31))
section ZSUM
variable {d : zD} {ho : Nat} {A : Nat → Nat} {D : Nat → UInt64} {V : Nat → Nat → Int32} {nk ns : Nat} {B : Nat → Nat} {W : Nat → Nat → Int32} {ne ec : Nat} {G G1 : zG} {r : Option Value}
/-- the class's answers, the reference's: pass -/
theorem sumC_pass {x : Int32} (h : (fun r G1 => (zin x 1 365 = false ∧ r = some (.int 1) ∧ zT d A D V nk ns G1 ∧ zOut ho G1 ∧ lFr A nk ns ho G G1) ∨ (zin x 1 365 = true ∧ 999 < V 0 0 + x ∧ r = some (.int 2) ∧ zT d A D V nk ns G1 ∧ zOut ho G1 ∧ lFr A nk ns ho G G1) ∨ (zin x 1 365 = true ∧ ¬ 999 < V 0 0 + x ∧ r = some (.int 0) ∧ zT d A D (rset V 0 (z4 (V 0 0 + x) (V 0 1) (V 0 2) (V 0 3))) nk ns G1 ∧ zOn ho (V 0 0 + x).toInt64 G1 ∧ lFr A nk ns ho G G1) : Option Value → zG → Prop) r G1) : ∃ kk V3, r = some (.int kk) ∧ pRes x (V 0 0) kk (V3 0 0) ∧ zT d A D V3 nk ns G1 ∧ zOut ho G1 ∧ lFr A nk ns ho G G1 ∧ (∀ r j, zob_ r j → r ≠ 0 → V3 r j = V r j) ∧ (kk = 0 → zOn ho (V 0 0 + x).toInt64 G1) := by
  rcases h with ⟨a, rfl, h1, h2, h3⟩ | ⟨a, b, rfl, h1, h2, h3⟩ | ⟨a, b, rfl, h1, h2, h3⟩
  · exact ⟨1, V, rfl, Or.inl ⟨a, rfl, rfl⟩, h1, h2, h3, fun _ _ _ _ => rfl, fun q => absurd q (by decide)⟩
  · exact ⟨2, V, rfl, Or.inr (Or.inl ⟨a, b, rfl, rfl⟩), h1, h2, h3, fun _ _ _ _ => rfl, fun q => absurd q (by decide)⟩
  · exact ⟨0, _, rfl, Or.inr (Or.inr ⟨a, b, rfl, rfl⟩), h1, h2.o, h3, fun r j _ h0 => by rw [rset_n h0], fun _ => h2⟩
theorem sumM_pass {x : Int32} (h : (fun r G1 => ∃ W', zM d B W' nk ns ne ec G1 ∧ mFr B nk ns ne G G1 ∧ ((zin x 1 365 = false ∧ W' 0 0 = 1 ∧ zKn W W' ∧ r = some (.int 0)) ∨ (zin x 1 365 = true ∧ 999 < W 0 2 + x ∧ W' 0 0 = 2 ∧ zKn W W' ∧ r = some (.int 0)) ∨ (zin x 1 365 = true ∧ ¬ 999 < W 0 2 + x ∧ W' 0 0 = 0 ∧ W' 0 2 = W 0 2 + x ∧ (∀ r j, zmo_ r j → r ≠ 0 → W' r j = W r j) ∧ r = some (.int (W 0 2 + x)))) : Option Value → zG → Prop) r G1) : ∃ bb W4, r = some (.int bb) ∧ pRes x (W 0 2) (W4 0 0) (W4 0 2) ∧ zM d B W4 nk ns ne ec G1 ∧ mFr B nk ns ne G G1 ∧ (∀ r j, zmo_ r j → r ≠ 0 → W4 r j = W r j) ∧ (W4 0 0 = 0 → bb = W 0 2 + x) := by
  obtain ⟨W4, h1, h2, h3⟩ := h
  have hd : ∀ (hk : zKn W W4), W4 0 2 = W 0 2 := fun hk => hk 0 2 (Or.inl ⟨rfl, Or.inr rfl⟩) (by decide)
  rcases h3 with ⟨a, b, c, rfl⟩ | ⟨a, b, c, e, rfl⟩ | ⟨a, b, c, e, f, rfl⟩
  · exact ⟨0, W4, rfl, Or.inl ⟨a, b, hd c⟩, h1, h2, fun r j hr h0 => c r j hr (fun q => h0 q.1), fun q => by rw [b] at q; cases q⟩
  · exact ⟨0, W4, rfl, Or.inr (Or.inl ⟨a, b, c, hd e⟩), h1, h2, fun r j hr h0 => e r j hr (fun q => h0 q.1), fun q => by rw [c] at q; cases q⟩
  · exact ⟨_, W4, rfl, Or.inr (Or.inr ⟨a, b, c, e⟩), h1, h2, f, fun _ => rfl⟩
theorem zLI.pass {V3 W4 : Nat → Nat → Int32} (h : zLI V W nk ns) (h0 : V3 0 0 = W4 0 2) (hk : nk ≤ 8) (hs : ns ≤ 6) (h1 : ∀ r j, zob_ r j → r ≠ 0 → V3 r j = V r j) (h2 : ∀ r j, zmo_ r j → r ≠ 0 → W4 r j = W r j) : zLI V3 W4 nk ns := by
  refine ⟨h0, fun k hq => ?_, fun i hi => ?_⟩
  · rw [h1 (100 + k) 4 (by unfold zob_; omega) (by omega), h2 (100 + k) 3 (by unfold zmo_; omega) (by omega)]; exact h.2.1 k hq
  · rw [h1 (200 + i) 4 (by unfold zob_; omega) (by omega), h2 (200 + i) 4 (by unfold zmo_; omega) (by omega)]; exact h.2.2 i hi
/-- keeper -/
theorem sumC_keeper {x z w : Int32} (h : (fun r G1 => (zkok x z w = false ∧ r = some (.int 1) ∧ zT d A D V nk ns G1 ∧ zOut ho G1 ∧ lFr A nk ns ho G G1) ∨ (zkok x z w = true ∧ nk = 8 ∧ r = some (.int 2) ∧ zT d A D V nk ns G1 ∧ zOut ho G1 ∧ lFr A nk ns ho G G1) ∨ (zkok x z w = true ∧ nk < 8 ∧ r = some (.int 0) ∧ ∃ A', zNw A A' nk ns (nk + 1) ns G ∧ zT d A' D (rset (rset V (100 + nk) (z6k (nI nk) x z w)) 1 (fun _ => V 1 0 + 1)) (nk + 1) ns G1 ∧ zOn ho (nI nk).toInt64 G1 ∧ lFr A nk ns ho G G1) : Option Value → zG → Prop) r G1) : ∃ kk A3 V3 nk3, r = some (.int kk) ∧ kRes nk x z w kk nk3 ∧ zT d A3 D V3 nk3 ns G1 ∧ zNw A A3 nk ns nk3 ns G ∧ zOut ho G1 ∧ lFr A nk ns ho G G1 ∧ (∀ r j, zob_ r j → r ≠ 100 + nk → V3 r j = V r j) ∧ (nk < nk3 → V3 (100 + nk) 4 = 0) ∧ (kk = 0 → zOn ho (nI nk).toInt64 G1) := by
  rcases h with ⟨a, rfl, h1, h2, h3⟩ | ⟨a, b, rfl, h1, h2, h3⟩ | ⟨a, b, rfl, A3, h0, h1, h2, h3⟩
  · exact ⟨1, A, V, nk, rfl, Or.inl ⟨a, rfl, rfl⟩, h1, zNw.rf, h2, h3, fun _ _ _ _ => rfl, fun q => absurd q (Nat.lt_irrefl _), fun q => absurd q (by decide)⟩
  · exact ⟨2, A, V, nk, rfl, Or.inr (Or.inl ⟨a, b, rfl, rfl⟩), h1, zNw.rf, h2, h3, fun _ _ _ _ => rfl, fun q => absurd q (Nat.lt_irrefl _), fun q => absurd q (by decide)⟩
  · refine ⟨0, A3, _, nk + 1, rfl, Or.inr (Or.inr ⟨a, b, rfl, rfl⟩), h1, h0, h2.o, h3, fun r j hr hn => ?_, fun _ => ?_, fun _ => h2⟩
    · rw [rset_n (by unfold zob_ at hr; omega), rset_n hn]
    · rw [rset_n (by omega), rset_s]; rfl
theorem sumM_keeper {x z w : Int32} (h : (fun r G1 => (zkok x z w = false ∧ r = some (.int 0) ∧ ∃ W', zM d B W' nk ns ne ec G1 ∧ W' 0 0 = 1 ∧ zKn W W' ∧ mFr B nk ns ne G G1) ∨ (zkok x z w = true ∧ nk = 8 ∧ r = some (.int 0) ∧ ∃ W', zM d B W' nk ns ne ec G1 ∧ W' 0 0 = 2 ∧ zKn W W' ∧ mFr B nk ns ne G G1) ∨ (zkok x z w = true ∧ nk < 8 ∧ r = some (.int (nI nk)) ∧ ∃ B' W', zM d B' W' (nk + 1) ns ne ec G1 ∧ mNw B B' nk ns ne (nk + 1) ns ne G ∧ W' 0 0 = 0 ∧ (∀ r j, zmo_ r j → ¬ (r = 0 ∧ j = 0) → r ≠ 100 + nk → W' r j = W r j) ∧ (W' (100 + nk) 0 = x ∧ W' (100 + nk) 1 = z ∧ W' (100 + nk) 2 = w ∧ W' (100 + nk) 3 = 0) ∧ mFr B nk ns ne G G1) : Option Value → zG → Prop) r G1) : ∃ bb B4 W4 nk4, r = some (.int bb) ∧ kRes nk x z w (W4 0 0) nk4 ∧ zM d B4 W4 nk4 ns ne ec G1 ∧ mNw B B4 nk ns ne nk4 ns ne G ∧ mFr B nk ns ne G G1 ∧ (∀ r j, zmo_ r j → ¬ (r = 0 ∧ j = 0) → r ≠ 100 + nk → W4 r j = W r j) ∧ (nk < nk4 → W4 (100 + nk) 3 = 0) ∧ (W4 0 0 = 0 → bb = nI nk) := by
  rcases h with ⟨a, rfl, W4, h1, h2, h3, h4⟩ | ⟨a, b, rfl, W4, h1, h2, h3, h4⟩ | ⟨a, b, rfl, B4, W4, h1, h2, h3, h4, h5, h6⟩
  · exact ⟨0, B, W4, nk, rfl, Or.inl ⟨a, h2, rfl⟩, h1, mNw.rf, h4, fun r j hr h0 _ => h3 r j hr h0, fun q => absurd q (Nat.lt_irrefl _), fun q => by rw [h2] at q; cases q⟩
  · exact ⟨0, B, W4, nk, rfl, Or.inr (Or.inl ⟨a, b, h2, rfl⟩), h1, mNw.rf, h4, fun r j hr h0 _ => h3 r j hr h0, fun q => absurd q (Nat.lt_irrefl _), fun q => by rw [h2] at q; cases q⟩
  · exact ⟨_, B4, W4, nk + 1, rfl, Or.inr (Or.inr ⟨a, b, h3, rfl⟩), h1, h2, h6, h4, fun _ => h5.2.2.2, fun _ => rfl⟩
theorem zLI.keeper {V3 W4 : Nat → Nat → Int32} {nk3 : Nat} (h : zLI V W nk ns) (hk : nk ≤ 8) (hs : ns ≤ 6) (hn : nk3 = nk ∨ nk3 = nk + 1) (h1 : ∀ r j, zob_ r j → r ≠ 100 + nk → V3 r j = V r j) (h2 : nk < nk3 → V3 (100 + nk) 4 = 0) (h3 : ∀ r j, zmo_ r j → ¬ (r = 0 ∧ j = 0) → r ≠ 100 + nk → W4 r j = W r j) (h4 : nk < nk3 → W4 (100 + nk) 3 = 0) : zLI V3 W4 nk3 ns := by
  refine ⟨by rw [h1 0 0 (Or.inl ⟨rfl, rfl⟩) (by omega), h3 0 2 (Or.inl ⟨rfl, Or.inr rfl⟩) (by decide) (by omega)]; exact h.1, fun k hq => ?_, fun i hi => ?_⟩
  · by_cases e : k = nk
    · subst e; rw [h2 hq, h4 hq]
    · rw [h1 (100 + k) 4 (by unfold zob_; omega) (by omega), h3 (100 + k) 3 (by unfold zmo_; omega) (by omega) (by omega)]; exact h.2.1 k (by omega)
  · rw [h1 (200 + i) 4 (by unfold zob_; omega) (by omega), h3 (200 + i) 4 (by unfold zmo_; omega) (by omega) (by omega)]; exact h.2.2 i hi
theorem kRes.n {nk n1 : Nat} {x z w k1 : Int32} (h : kRes nk x z w k1 n1) : n1 = nk ∨ n1 = nk + 1 := by
  rcases h with ⟨_, _, h⟩ | ⟨_, _, _, h⟩ | ⟨_, _, _, h⟩ <;> omega
/-- deal -/
theorem sumC_deal {x t z dt set : Int32} (h : (fun r G1 => (zdok nk x t z dt set = false ∧ r = some (.int 1) ∧ zT d A D V nk ns G1 ∧ zOut ho G1 ∧ lFr A nk ns ho G G1) ∨ (zdok nk x t z dt set = true ∧ ns = 6 ∧ r = some (.int 2) ∧ zT d A D V nk ns G1 ∧ zOut ho G1 ∧ lFr A nk ns ho G G1) ∨ (zdok nk x t z dt set = true ∧ ns < 6 ∧ r = some (.int 0) ∧ ∃ A' D' V', zNw A A' nk ns nk (ns + 1) G ∧ zT d A' D' V' nk (ns + 1) G1 ∧ (∀ r j, zob_ r j → r ≠ 200 + ns → V' r j = V r j) ∧ (V' (200 + ns) 0 = t ∧ V' (200 + ns) 1 = z ∧ V' (200 + ns) 2 = dt ∧ V' (200 + ns) 4 = 0) ∧ zOn ho (nI ns).toInt64 G1 ∧ lFr A nk ns ho G G1) : Option Value → zG → Prop) r G1) : ∃ kk A3 D3 V3 ns3, r = some (.int kk) ∧ dRes nk ns x t z dt set kk ns3 ∧ zT d A3 D3 V3 nk ns3 G1 ∧ zNw A A3 nk ns nk ns3 G ∧ zOut ho G1 ∧ lFr A nk ns ho G G1 ∧ (∀ r j, zob_ r j → r ≠ 200 + ns → V3 r j = V r j) ∧ (ns < ns3 → V3 (200 + ns) 4 = 0) ∧ (kk = 0 → zOn ho (nI ns).toInt64 G1) := by
  rcases h with ⟨a, rfl, h1, h2, h3⟩ | ⟨a, b, rfl, h1, h2, h3⟩ | ⟨a, b, rfl, A3, D3, V3, h0, h1, h4, h5, h2, h3⟩
  · exact ⟨1, A, D, V, ns, rfl, Or.inl ⟨a, rfl, rfl⟩, h1, zNw.rf, h2, h3, fun _ _ _ _ => rfl, fun q => absurd q (Nat.lt_irrefl _), fun q => absurd q (by decide)⟩
  · exact ⟨2, A, D, V, ns, rfl, Or.inr (Or.inl ⟨a, b, rfl, rfl⟩), h1, zNw.rf, h2, h3, fun _ _ _ _ => rfl, fun q => absurd q (Nat.lt_irrefl _), fun q => absurd q (by decide)⟩
  · exact ⟨0, A3, D3, V3, ns + 1, rfl, Or.inr (Or.inr ⟨a, b, rfl, rfl⟩), h1, h0, h2.o, h3, h4, fun _ => h5.2.2.2, fun _ => h2⟩
theorem sumM_deal {x t z dt set : Int32} (h : (fun r G1 => (zdok nk x t z dt set = false ∧ r = some (.int 0) ∧ ∃ W', zM d B W' nk ns ne ec G1 ∧ W' 0 0 = 1 ∧ zKn W W' ∧ mFr B nk ns ne G G1) ∨ (zdok nk x t z dt set = true ∧ ns = 6 ∧ r = some (.int 0) ∧ ∃ W', zM d B W' nk ns ne ec G1 ∧ W' 0 0 = 2 ∧ zKn W W' ∧ mFr B nk ns ne G G1) ∨ (zdok nk x t z dt set = true ∧ ns < 6 ∧ r = some (.int (nI ns)) ∧ ∃ B' W' ne' ec', zM d B' W' nk (ns + 1) ne' ec' G1 ∧ mNw B B' nk ns ne nk (ns + 1) ne' G ∧ W' 0 0 = 0 ∧ (∀ r j, zmo_ r j → ¬ (r = 0 ∧ j = 0) → r ≠ 200 + ns → W' r j = W r j) ∧ (W' (200 + ns) 0 = t ∧ W' (200 + ns) 1 = z ∧ W' (200 + ns) 2 = dt ∧ W' (200 + ns) 4 = 0) ∧ mFr B nk ns ne G G1) : Option Value → zG → Prop) r G1) : ∃ bb B4 W4 ns4 ne4 ec4, r = some (.int bb) ∧ dRes nk ns x t z dt set (W4 0 0) ns4 ∧ zM d B4 W4 nk ns4 ne4 ec4 G1 ∧ mNw B B4 nk ns ne nk ns4 ne4 G ∧ mFr B nk ns ne G G1 ∧ (∀ r j, zmo_ r j → ¬ (r = 0 ∧ j = 0) → r ≠ 200 + ns → W4 r j = W r j) ∧ (ns < ns4 → W4 (200 + ns) 4 = 0) ∧ (W4 0 0 = 0 → bb = nI ns) := by
  rcases h with ⟨a, rfl, W4, h1, h2, h3, h4⟩ | ⟨a, b, rfl, W4, h1, h2, h3, h4⟩ | ⟨a, b, rfl, B4, W4, ne4, ec4, h1, h2, h3, h4, h5, h6⟩
  · exact ⟨0, B, W4, ns, ne, ec, rfl, Or.inl ⟨a, h2, rfl⟩, h1, mNw.rf, h4, fun r j hr h0 _ => h3 r j hr h0, fun q => absurd q (Nat.lt_irrefl _), fun q => by rw [h2] at q; cases q⟩
  · exact ⟨0, B, W4, ns, ne, ec, rfl, Or.inr (Or.inl ⟨a, b, h2, rfl⟩), h1, mNw.rf, h4, fun r j hr h0 _ => h3 r j hr h0, fun q => absurd q (Nat.lt_irrefl _), fun q => by rw [h2] at q; cases q⟩
  · exact ⟨_, B4, W4, ns + 1, ne4, ec4, rfl, Or.inr (Or.inr ⟨a, b, h3, rfl⟩), h1, h2, h6, h4, fun _ => h5.2.2.2, fun _ => rfl⟩
theorem zLI.deal {V3 W4 : Nat → Nat → Int32} {ns3 : Nat} (h : zLI V W nk ns) (hk : nk ≤ 8) (hs : ns ≤ 6) (hn : ns3 = ns ∨ ns3 = ns + 1) (h1 : ∀ r j, zob_ r j → r ≠ 200 + ns → V3 r j = V r j) (h2 : ns < ns3 → V3 (200 + ns) 4 = 0) (h3 : ∀ r j, zmo_ r j → ¬ (r = 0 ∧ j = 0) → r ≠ 200 + ns → W4 r j = W r j) (h4 : ns < ns3 → W4 (200 + ns) 4 = 0) : zLI V3 W4 nk ns3 := by
  refine ⟨by rw [h1 0 0 (Or.inl ⟨rfl, rfl⟩) (by omega), h3 0 2 (Or.inl ⟨rfl, Or.inr rfl⟩) (by decide) (by omega)]; exact h.1, fun k hq => ?_, fun i hi => ?_⟩
  · rw [h1 (100 + k) 4 (by unfold zob_; omega) (by omega), h3 (100 + k) 3 (by unfold zmo_; omega) (by omega) (by omega)]; exact h.2.1 k hq
  · by_cases e : i = ns
    · subst e; rw [h2 hi, h4 hi]; exact ⟨rfl, 0, by decide, rfl⟩
    · rw [h1 (200 + i) 4 (by unfold zob_; omega) (by omega), h3 (200 + i) 4 (by unfold zmo_; omega) (by omega) (by omega)]; exact h.2.2 i (by omega)
theorem dRes.n {nk ns n1 : Nat} {x t z dt set k1 : Int32} (h : dRes nk ns x t z dt set k1 n1) : n1 = ns ∨ n1 = ns + 1 := by
  rcases h with ⟨_, _, h⟩ | ⟨_, _, _, h⟩ | ⟨_, _, _, h⟩ <;> omega
/-- lie -/
theorem sumC_lie {x w : Int32} (hk : nk ≤ 8) (h : (fun r G1 => ((x < 0 ∨ nI nk ≤ x) ∧ r = some (.int 1) ∧ zT d A D V nk ns G1 ∧ zOut ho G1 ∧ lFr A nk ns ho G G1) ∨ ((∃ k, k < nk ∧ x = nI k) ∧ zin w 0 96 = false ∧ r = some (.int 2) ∧ zT d A D V nk ns G1 ∧ zOut ho G1 ∧ lFr A nk ns ho G G1) ∨ (∃ k, k < nk ∧ x = nI k ∧ zin w 0 96 = true ∧ r = some (.int 0) ∧ zT d A D (rset V (100 + k) (upd (V (100 + k)) 4 w)) nk ns G1 ∧ zOn ho (V (100 + k) 4).toInt64 G1 ∧ lFr A nk ns ho G G1) : Option Value → zG → Prop) r G1) : ∃ kk V3, r = some (.int kk) ∧ lRes nk x w kk ∧ zT d A D V3 nk ns G1 ∧ zOut ho G1 ∧ lFr A nk ns ho G G1 ∧ (∀ r j, zob_ r j → ¬ (100 ≤ r ∧ r < 200 ∧ j = 4) → V3 r j = V r j) ∧ (∀ k, k < nk → V3 (100 + k) 4 = if kk = 0 ∧ x = nI k then w else V (100 + k) 4) ∧ (kk = 0 → ∀ k, k < nk → x = nI k → zOn ho (V (100 + k) 4).toInt64 G1) := by
  rcases h with ⟨a, rfl, h1, h2, h3⟩ | ⟨a, b, rfl, h1, h2, h3⟩ | ⟨k, hk2, rfl, b, rfl, h1, h2, h3⟩
  · exact ⟨1, V, rfl, Or.inl ⟨zIx_1 (by omega) a, rfl⟩, h1, h2, h3, fun _ _ _ _ => rfl, fun k _ => (if_neg (fun q => absurd q.1 (by decide))).symm, fun q => absurd q (by decide)⟩
  · exact ⟨2, V, rfl, Or.inr (Or.inl ⟨a, b, rfl⟩), h1, h2, h3, fun _ _ _ _ => rfl, fun k _ => (if_neg (fun q => absurd q.1 (by decide))).symm, fun q => absurd q (by decide)⟩
  · refine ⟨0, _, rfl, Or.inr (Or.inr ⟨⟨k, hk2, rfl⟩, b, rfl⟩), h1, h2.o, h3, fun r j hr hn => ?_, fun k2 hk3 => ?_, fun _ k2 hk3 e => ?_⟩
    · by_cases e : r = 100 + k
      · subst e
        rw [rset_s]
        exact if_neg (fun q => hn ⟨by omega, by omega, q⟩)
      · rw [rset_n e]
    · by_cases e : k2 = k
      · subst e
        rw [rset_s]; exact (if_pos ⟨rfl, rfl⟩).symm
      · rw [rset_n (by omega), if_neg (fun q => e ((nI_eq (by omega) (by omega)).mp q.2).symm)]
    · obtain rfl := (nI_eq (by omega) (by omega)).mp e
      exact h2
theorem sumM_lie {x w : Int32} (hk : nk ≤ 8) (h : (fun r G1 => ∃ W', zM d B W' nk ns ne ec G1 ∧ mFr B nk ns ne G G1 ∧ ((zin x 0 (nI nk - 1) = false ∧ W' 0 0 = 1 ∧ zKn W W' ∧ r = some (.int 0)) ∨ ((∃ k, k < nk ∧ x = nI k) ∧ zin w 0 96 = false ∧ W' 0 0 = 2 ∧ zKn W W' ∧ r = some (.int 0)) ∨ (∃ k, k < nk ∧ x = nI k ∧ zin w 0 96 = true ∧ W' 0 0 = 0 ∧ W' (100 + k) 3 = w ∧ (∀ r j, zmo_ r j → ¬ (r = 0 ∧ j = 0) → ¬ (r = 100 + k ∧ j = 3) → W' r j = W r j) ∧ r = some (.int (W (100 + k) 3)))) : Option Value → zG → Prop) r G1) : ∃ bb W4, r = some (.int bb) ∧ lRes nk x w (W4 0 0) ∧ zM d B W4 nk ns ne ec G1 ∧ mFr B nk ns ne G G1 ∧ (∀ r j, zmo_ r j → ¬ (r = 0 ∧ j = 0) → ¬ (100 ≤ r ∧ r < 200 ∧ j = 3) → W4 r j = W r j) ∧ (∀ k, k < nk → W4 (100 + k) 3 = if W4 0 0 = 0 ∧ x = nI k then w else W (100 + k) 3) ∧ (W4 0 0 = 0 → ∀ k, k < nk → x = nI k → bb = W (100 + k) 3) := by
  obtain ⟨W4, h1, h2, h3⟩ := h
  rcases h3 with ⟨a, b, c, rfl⟩ | ⟨a, b, c, e, rfl⟩ | ⟨k, hk2, rfl, a, b, c, e, rfl⟩
  · exact ⟨0, W4, rfl, Or.inl ⟨zIx_2 (by omega) a, b⟩, h1, h2, fun r j hr h0 _ => c r j hr h0, fun k hk2 => by rw [if_neg (fun q => by rw [b] at q; exact absurd q.1 (by decide))]; exact c _ _ (by unfold zmo_; omega) (by omega), fun q => by rw [b] at q; cases q⟩
  · exact ⟨0, W4, rfl, Or.inr (Or.inl ⟨a, b, c⟩), h1, h2, fun r j hr h0 _ => e r j hr h0, fun k hk2 => by rw [if_neg (fun q => by rw [c] at q; exact absurd q.1 (by decide))]; exact e _ _ (by unfold zmo_; omega) (by omega), fun q => by rw [c] at q; cases q⟩
  · refine ⟨_, W4, rfl, Or.inr (Or.inr ⟨⟨k, hk2, rfl⟩, a, b⟩), h1, h2, fun r j hr h0 hn => e r j hr h0 (fun q => hn ⟨by omega, by omega, q.2⟩), fun k2 hk3 => ?_, fun _ k2 hk3 e2 => ?_⟩
    · by_cases e2 : k2 = k
      · subst e2; rw [if_pos ⟨b, rfl⟩]; exact c
      · rw [if_neg (fun q => e2 ((nI_eq (by omega) (by omega)).mp q.2).symm)]; exact e _ _ (by unfold zmo_; omega) (by omega) (by omega)
    · obtain rfl := (nI_eq (by omega) (by omega)).mp e2
      rfl
theorem zLI.lie {V3 W4 : Nat → Nat → Int32} {x w kk : Int32} (h : zLI V W nk ns) (hk : nk ≤ 8) (hs : ns ≤ 6) (e0 : W4 0 0 = kk) (h1 : ∀ r j, zob_ r j → ¬ (100 ≤ r ∧ r < 200 ∧ j = 4) → V3 r j = V r j) (h2 : ∀ k, k < nk → V3 (100 + k) 4 = if kk = 0 ∧ x = nI k then w else V (100 + k) 4) (h3 : ∀ r j, zmo_ r j → ¬ (r = 0 ∧ j = 0) → ¬ (100 ≤ r ∧ r < 200 ∧ j = 3) → W4 r j = W r j) (h4 : ∀ k, k < nk → W4 (100 + k) 3 = if W4 0 0 = 0 ∧ x = nI k then w else W (100 + k) 3) : zLI V3 W4 nk ns := by
  refine ⟨by rw [h1 0 0 (Or.inl ⟨rfl, rfl⟩) (by omega), h3 0 2 (Or.inl ⟨rfl, Or.inr rfl⟩) (by decide) (by omega)]; exact h.1, fun k hq => by rw [h2 k hq, h4 k hq, e0, h.2.1 k hq], fun i hi => ?_⟩
  rw [h1 (200 + i) 4 (by unfold zob_; omega) (by omega), h3 (200 + i) 4 (by unfold zmo_; omega) (by omega) (by omega)]; exact h.2.2 i hi
/-- freeze -/
theorem sumC_freeze {x w x3 : Int32} (hs : ns ≤ 6) (h : (fun r G1 => ((zin x 0 1 = false ∨ w < 0 ∨ nI ns ≤ w) ∧ r = some (.int 1) ∧ zT d A D V nk ns G1 ∧ zOut ho G1 ∧ lFr A nk ns ho G G1) ∨ (∃ k, k < ns ∧ w = nI k ∧ zin x 0 1 = true ∧ r = some (.int 0) ∧ zT d A D (rset V (200 + k) (z6 (V (200 + k)) (V (200 + k) 3) (if x3 = 0 then V (200 + k) 4 &&& ((1 <<< (x &&& 31)) ^^^ (-1)) else V (200 + k) 4 ||| (1 <<< (x &&& 31))) (V (200 + k) 5))) nk ns G1 ∧ zOn ho (zbc (if x3 = 0 then V (200 + k) 4 &&& ((1 <<< (x &&& 31)) ^^^ (-1)) else V (200 + k) 4 ||| (1 <<< (x &&& 31)))).toInt64 G1 ∧ lFr A nk ns ho G G1) : Option Value → zG → Prop) r G1) : ∃ kk V3, r = some (.int kk) ∧ fRes ns x w kk ∧ zT d A D V3 nk ns G1 ∧ zOut ho G1 ∧ lFr A nk ns ho G G1 ∧ (∀ r j, zob_ r j → ¬ (200 ≤ r ∧ r < 300 ∧ j = 4) → V3 r j = V r j) ∧ (∀ k, k < ns → V3 (200 + k) 4 = if kk = 0 ∧ w = nI k then zFz x x3 (V (200 + k) 4) else V (200 + k) 4) ∧ (kk = 0 → ∀ k, k < ns → w = nI k → zOn ho (zbc (zFz x x3 (V (200 + k) 4))).toInt64 G1) := by
  rcases h with ⟨a, rfl, h1, h2, h3⟩ | ⟨k, hk2, rfl, b, rfl, h1, h2, h3⟩
  · exact ⟨1, V, rfl, Or.inl ⟨a.imp_right (zIx_1 (by omega)), rfl⟩, h1, h2, h3, fun _ _ _ _ => rfl, fun k _ => (if_neg (fun q => absurd q.1 (by decide))).symm, fun q => absurd q (by decide)⟩
  · refine ⟨0, _, rfl, Or.inr ⟨b, ⟨k, hk2, rfl⟩, rfl⟩, h1, h2.o, h3, fun r j hr hn => ?_, fun k2 hk3 => ?_, fun _ k2 hk3 e => ?_⟩
    · by_cases e : r = 200 + k
      · subst e
        rw [rset_s]
        have hj : j = 0 ∨ j = 1 ∨ j = 2 := by unfold zob_ at hr; omega
        rcases hj with rfl | rfl | rfl <;> rfl
      · rw [rset_n e]
    · by_cases e : k2 = k
      · subst e
        rw [rset_s]; exact (if_pos ⟨rfl, rfl⟩).symm
      · rw [rset_n (by omega), if_neg (fun q => e ((nI_eq (by omega) (by omega)).mp q.2).symm)]
    · obtain rfl := (nI_eq (by omega) (by omega)).mp e
      exact h2
theorem sumM_freeze {x w x3 : Int32} (hs : ns ≤ 6) (h : (fun r G1 => ∃ W', zM d B W' nk ns ne ec G1 ∧ mFr B nk ns ne G G1 ∧ (((zin x 0 1 = false ∨ zin w 0 (nI ns - 1) = false) ∧ W' 0 0 = 1 ∧ zKn W W' ∧ r = some (.int 0)) ∨ (∃ k, k < ns ∧ w = nI k ∧ zin x 0 1 = true ∧ W' 0 0 = 0 ∧ W' (200 + k) 4 = (if x3 = 0 then W (200 + k) 4 &&& ((1 <<< (x &&& 31)) ^^^ (-1)) else W (200 + k) 4 ||| (1 <<< (x &&& 31))) ∧ (∀ r j, zmo_ r j → ¬ (r = 0 ∧ j = 0) → ¬ (r = 200 + k ∧ j = 4) → W' r j = W r j) ∧ ∃ v, r = some (.int v) ∧ ∀ n, n < 512 → (if x3 = 0 then W (200 + k) 4 &&& ((1 <<< (x &&& 31)) ^^^ (-1)) else W (200 + k) 4 ||| (1 <<< (x &&& 31))) = nI n → v = nI (zpop 9 n))) : Option Value → zG → Prop) r G1) : ∃ bb W4, r = some (.int bb) ∧ fRes ns x w (W4 0 0) ∧ zM d B W4 nk ns ne ec G1 ∧ mFr B nk ns ne G G1 ∧ (∀ r j, zmo_ r j → ¬ (r = 0 ∧ j = 0) → ¬ (200 ≤ r ∧ r < 300 ∧ j = 4) → W4 r j = W r j) ∧ (∀ k, k < ns → W4 (200 + k) 4 = if W4 0 0 = 0 ∧ w = nI k then zFz x x3 (W (200 + k) 4) else W (200 + k) 4) ∧ (W4 0 0 = 0 → ∀ k, k < ns → w = nI k → ∀ n, n < 512 → zFz x x3 (W (200 + k) 4) = nI n → bb = nI (zpop 9 n)) := by
  obtain ⟨W4, h1, h2, h3⟩ := h
  rcases h3 with ⟨a, b, c, rfl⟩ | ⟨k, hk2, rfl, a, b, c, e, v, rfl, hv⟩
  · exact ⟨0, W4, rfl, Or.inl ⟨a.imp_right (zIx_2 (by omega)), b⟩, h1, h2, fun r j hr h0 _ => c r j hr h0, fun k hk2 => by rw [if_neg (fun q => by rw [b] at q; exact absurd q.1 (by decide))]; exact c _ _ (by unfold zmo_; omega) (by omega), fun q => by rw [b] at q; cases q⟩
  · refine ⟨v, W4, rfl, Or.inr ⟨a, ⟨k, hk2, rfl⟩, b⟩, h1, h2, fun r j hr h0 hn => e r j hr h0 (fun q => hn ⟨by omega, by omega, q.2⟩), fun k2 hk3 => ?_, fun _ k2 hk3 e2 n hn e3 => ?_⟩
    · by_cases e2 : k2 = k
      · subst e2; rw [if_pos ⟨b, rfl⟩]; exact c
      · rw [if_neg (fun q => e2 ((nI_eq (by omega) (by omega)).mp q.2).symm)]; exact e _ _ (by unfold zmo_; omega) (by omega) (by omega)
    · obtain rfl := (nI_eq (by omega) (by omega)).mp e2
      exact hv n hn e3
theorem zLI.freeze {V3 W4 : Nat → Nat → Int32} {x w x3 kk : Int32} (h : zLI V W nk ns) (hk : nk ≤ 8) (hs : ns ≤ 6) (hr : fRes ns x w kk) (e0 : W4 0 0 = kk) (h1 : ∀ r j, zob_ r j → ¬ (200 ≤ r ∧ r < 300 ∧ j = 4) → V3 r j = V r j) (h2 : ∀ k, k < ns → V3 (200 + k) 4 = if kk = 0 ∧ w = nI k then zFz x x3 (V (200 + k) 4) else V (200 + k) 4) (h3 : ∀ r j, zmo_ r j → ¬ (r = 0 ∧ j = 0) → ¬ (200 ≤ r ∧ r < 300 ∧ j = 4) → W4 r j = W r j) (h4 : ∀ k, k < ns → W4 (200 + k) 4 = if W4 0 0 = 0 ∧ w = nI k then zFz x x3 (W (200 + k) 4) else W (200 + k) 4) : zLI V3 W4 nk ns := by
  refine ⟨by rw [h1 0 0 (Or.inl ⟨rfl, rfl⟩) (by omega), h3 0 2 (Or.inl ⟨rfl, Or.inr rfl⟩) (by decide) (by omega)]; exact h.1, fun k hq => ?_, fun i hi => ?_⟩
  · rw [h1 (100 + k) 4 (by unfold zob_; omega) (by omega), h3 (100 + k) 3 (by unfold zmo_; omega) (by omega) (by omega)]; exact h.2.1 k hq
  · obtain ⟨e1, q, hq, e2⟩ := h.2.2 i hi
    refine ⟨by rw [h2 i hi, h4 i hi, e0, e1], ?_⟩
    rw [h2 i hi]
    by_cases hc : kk = 0 ∧ w = nI i
    · rw [if_pos hc]
      rcases hr with ⟨-, hr⟩ | ⟨hx, -, -⟩
      · rw [hr] at hc; exact absurd hc.1 (by decide)
      · exact zfz hq e2 hx
    · rw [if_neg hc]; exact ⟨q, hq, e2⟩
end ZSUM

