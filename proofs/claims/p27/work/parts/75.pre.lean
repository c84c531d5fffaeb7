
theorem gall : ∀ nk, nk ≤ 8 → (1 : Int32) <<< (nI nk &&& 31) - 1 = nI (2 ^ nk - 1) := fun nk h => (by decide : ∀ nk, nk < 9 → (1 : Int32) <<< (nI nk &&& 31) - 1 = nI (2 ^ nk - 1)) nk (by omega)
theorem g2p (nk : Nat) : nI (2 ^ nk - 1) + nI 1 = nI (2 ^ nk) := by
  rw [nI_add]
  have := Nat.two_pow_pos nk
  rw [show 2 ^ nk - 1 + 1 = 2 ^ nk by omega]
theorem gor (a : Nat) (ha : a < 256) (b : Nat) (hb : b < 256) : nI a ||| nI b = nI (a ||| b) := by
  have hle : a ||| b < 256 := Nat.or_lt_two_pow (n := 8) ha hb
  rw [← Int32.toBitVec_inj, Int32.toBitVec_or]
  apply BitVec.eq_of_toNat_eq
  rw [BitVec.toNat_or, pk_tn (by omega), pk_tn (by omega), pk_tn (by omega)]
theorem gle0 {n : Nat} (h : n < 2 ^ 20) : nI n ≤ 0 ↔ ¬ 0 < n := by
  have := nI_leI (a := n) (b := 0) (by omega) (by decide)
  rw [nI_0] at this
  rw [this]
  omega
theorem gzp {W : Nat → Nat → Int32} {si g : Nat} : zpop 9 (mgr W si g) < 2 ^ 20 := by
  have h := mgr_lt (V := W) (si := si) (s := g)
  have := zpop_le (mgr W si g) (by omega)
  omega
theorem gz1 {b : Bool} (h : zb b = 1) : b = true := by
  cases b with
  | true => rfl
  | false => exact absurd h (by decide)
def gKn (W : Nat → Nat → Int32) : Nat → Nat → Int32 := rset W 0 (zm6 (W 0 0) (W 0 1) (W 0 2) (W 0 3 + 1) (W 0 4) (W 0 5))
def gDy (W : Nat → Nat → Int32) (x : Int32) : Nat → Nat → Int32 := rset W 0 (zm6 (W 0 0) (W 0 1) (W 0 2 + x) (W 0 3) (W 0 4) (W 0 5))
def gDt (W : Nat → Nat → Int32) : Nat → Nat → Nat → Int32
  | 0 => W
  | t + 1 => gDy (gDt W t) (nI 1)
theorem rset_rset (W : Nat → Nat → Int32) (r : Nat) (f g : Nat → Int32) : rset (rset W r f) r g = rset W r g := funext fun q => by
  by_cases e : q = r
  · subst e; rw [rset_s, rset_s]
  · rw [rset_n e, rset_n e, rset_n e]
theorem gDy_s (W : Nat → Nat → Int32) (t : Nat) : gDy (gDy W (nI t)) (nI 1) = gDy W (nI (t + 1)) := by
  have h0 : (gDy W (nI t)) 0 = zm6 (W 0 0) (W 0 1) (W 0 2 + nI t) (W 0 3) (W 0 4) (W 0 5) := rset_s
  have e : W 0 2 + nI t + nI 1 = W 0 2 + nI (t + 1) := by rw [Int32.add_assoc, nI_add]
  show rset (gDy W (nI t)) 0 (zm6 ((gDy W (nI t)) 0 0) ((gDy W (nI t)) 0 1) ((gDy W (nI t)) 0 2 + nI 1) ((gDy W (nI t)) 0 3) ((gDy W (nI t)) 0 4) ((gDy W (nI t)) 0 5)) = _
  rw [h0]
  show rset (rset W 0 _) 0 (zm6 (W 0 0) (W 0 1) (W 0 2 + nI t + nI 1) (W 0 3) (W 0 4) (W 0 5)) = _
  rw [rset_rset, e]
  rfl
theorem gDt_eq (W : Nat → Nat → Int32) : ∀ t, gDt W (t + 1) = gDy W (nI (t + 1))
  | 0 => rfl
  | t + 1 => by
    show gDy (gDt W (t + 1)) (nI 1) = _
    rw [gDt_eq W t, gDy_s]
theorem gDt_day {W : Nat → Nat → Int32} {dy : Nat} (h : W 0 2 = nI dy) (t : Nat) : gDt W t 0 2 = nI (dy + t) := by
  cases t with
  | zero => exact h
  | succ t =>
    rw [gDt_eq]
    show (rset W 0 _) 0 2 = _
    rw [rset_s]
    show W 0 2 + nI (t + 1) = _
    rw [h, nI_add]
theorem gKn_day {W : Nat → Nat → Int32} : gKn W 0 2 = W 0 2 := by
  unfold gKn
  rw [rset_s]
  rfl
section GW
variable {d : zD} {A : Nat → Nat} {D : Nat → UInt64} {V W W1 : Nat → Nat → Int32} {nk ns ne ne1 nk1 ns1 N : Nat} {G G1 : zG} {r : Option Value} {E : String}
theorem gL_knock (hS : zSM N V W nk ns ne) : zSM (N + 1) (rset V 0 (z4 (V 0 0) (V 0 1 + 1) (V 0 2) (V 0 3))) (gKn W) nk ns ne := by
  obtain ⟨a1, a2, a3, a4, -⟩ := hS.1
  rw [a1, a2, a3, a4]
  exact (hS.cnt (W 0 2) (W 0 3 + 1) (W 0 4) (W 0 5) (W 0 0)).up (by omega)
theorem gL_pass (hS : zSM N V W nk ns ne) {dy dz : Nat} (hd : W 0 2 = nI dy) (hp : zin (nI dz) 1 365 = true ∧ ¬ 999 < V 0 0 + nI dz ∧ r = some (.int (V 0 0 + nI dz)) ∧ zT d A D (rset V 0 (z4 (V 0 0 + nI dz) (V 0 1) (V 0 2) (V 0 3))) nk ns G1 ∧ tFr A nk ns G G1) : r = some (.int (nI (dy + dz))) ∧ ∃ V', zT d A D V' nk ns G1 ∧ tFr A nk ns G G1 ∧ zSM N V' (gDy W (nI dz)) nk ns ne := by
  obtain ⟨-, -, rfl, hT, hF⟩ := hp
  obtain ⟨a1, a2, a3, a4, -⟩ := hS.1
  refine ⟨by rw [a1, hd, nI_add], _, hT, hF, ?_⟩
  rw [a1, a2, a3, a4]
  exact hS.cnt (W 0 2 + nI dz) (W 0 3) (W 0 4) (W 0 5) (W 0 0)
theorem gX_pass (hS : zSM N V W nk ns ne) {dy dz : Nat} (hd : W 0 2 = nI dy) (h1 : 1 ≤ dz) (h2 : dz ≤ 300) (h3 : dy ≤ 600) (hp : G1 = G ∧ ((zin (nI dz) 1 365 = false ∧ E = "java/lang/IllegalArgumentException") ∨ (zin (nI dz) 1 365 = true ∧ 999 < V 0 0 + nI dz ∧ E = "java/lang/IllegalStateException"))) : False := by
  obtain ⟨-, ⟨h, -⟩ | ⟨-, h, -⟩⟩ := hp
  · rw [show (365 : Int32) = nI 365 from rfl, gin1 h1 (by omega) (by decide)] at h; cases h
  · rw [hS.1.1, hd, nI_add] at h
    have := (nI_ltI (a := 999) (b := dy + dz) (by decide) (by omega)).mp h
    omega
variable {q : Nat → Nat → Nat} {si g ki : Nat}
theorem gCs_K (h : gCs q W nk ns ne W1 nk1 ns1 ne1) (c1 : (nk < 8 ∧ q 0 3 = 0) ∨ nk = 0) : W1 = rset (rset W (100 + nk) (zw5 (nI (q 1 4)) (nI (1 + q 2 99)) (nI (q 3 101)) 0 0)) 1 (fun _ => 0) ∧ nk1 = nk + 1 ∧ ns1 = ns ∧ ne1 = ne := Eq.mp (if_pos c1) h
theorem gCs_D (h : gCs q W nk ns ne W1 nk1 ns1 ne1) (c1 : ¬ ((nk < 8 ∧ q 0 3 = 0) ∨ nk = 0)) (c2 : (ns < 6 ∧ q 4 3 = 0) ∨ ns = 0) : mDl W W1 ns ne ne1 1 (nI (q 5 97)) (nI (1 + q 6 2)) (nI (q 7 50)) (nI (q 8 (2 ^ nk) ||| 1)) ∧ nk1 = nk ∧ ns1 = ns + 1 := Eq.mp ((if_neg c1).trans (if_pos c2)) h
theorem gCs_X (h : gCs q W nk ns ne W1 nk1 ns1 ne1) (c1 : ¬ ((nk < 8 ∧ q 0 3 = 0) ∨ nk = 0)) (c2 : ¬ ((ns < 6 ∧ q 4 3 = 0) ∨ ns = 0)) : gCx q W nk ns ne W1 ne1 (q 5 ns) (q 6 (2 ^ nk) ||| q 7 (2 ^ nk)) (q 8 nk) ∧ nk1 = nk ∧ ns1 = ns := Eq.mp ((if_neg c1).trans (if_neg c2)) h
theorem gCx_0 (h : gCx q W nk ns ne W1 ne1 si g ki) (e0 : q 9 6 = 0) (hz : 0 < zpop 9 (mgr W si g)) : gFsR W W1 ne ne1 si g (nI si) := Eq.mp ((if_pos e0).trans (if_pos hz)) h
theorem gCx_0n (h : gCx q W nk ns ne W1 ne1 si g ki) (e0 : q 9 6 = 0) (hz : ¬ 0 < zpop 9 (mgr W si g)) : W1 = W ∧ ne1 = ne := Eq.mp ((if_pos e0).trans (if_neg hz)) h
theorem gCx_1 (h : gCx q W nk ns ne W1 ne1 si g ki) (e0 : ¬ q 9 6 = 0) (e1 : q 9 6 = 1) : ∃ W2, mFd W W2 ns (nI (q 10 4)) (mDn nk ns 0) ∧ mEn W2 W1 ne ne1 2 (nI (q 10 4)) := Eq.mp ((if_neg e0).trans (if_pos e1)) h
theorem gCx_2 (h : gCx q W nk ns ne W1 ne1 si g ki) (e0 : ¬ q 9 6 = 0) (e1 : ¬ q 9 6 = 1) (e2 : q 9 6 = 2) (hz : zgd (W (300 + si)) (W (400 + si)) (W (200 + si) 3) ki = false) (hg : rgd (W 7) (mgv W si) 1 (mgr W si g) = true) : ∃ r, mRb W W1 nk ne ne1 si ki g (nI si) r := Eq.mp ((if_neg e0).trans ((if_neg e1).trans ((if_pos e2).trans (if_pos ⟨hz, hg⟩)))) h
theorem gCx_2n (h : gCx q W nk ns ne W1 ne1 si g ki) (e0 : ¬ q 9 6 = 0) (e1 : ¬ q 9 6 = 1) (e2 : q 9 6 = 2) (hz : ¬ (zgd (W (300 + si)) (W (400 + si)) (W (200 + si) 3) ki = false ∧ rgd (W 7) (mgv W si) 1 (mgr W si g) = true)) : W1 = W ∧ ne1 = ne := Eq.mp ((if_neg e0).trans ((if_neg e1).trans ((if_pos e2).trans (if_neg hz)))) h
theorem gCx_3 (h : gCx q W nk ns ne W1 ne1 si g ki) (e0 : ¬ q 9 6 = 0) (e1 : ¬ q 9 6 = 1) (e2 : ¬ q 9 6 = 2) (e3 : q 9 6 = 3) : W1 = rset W (100 + ki) (zk5 (W (100 + ki)) (if q 10 3 = 0 then nI (q 11 97) else 0) (W (100 + ki) 4)) ∧ ne1 = ne := Eq.mp ((if_neg e0).trans ((if_neg e1).trans ((if_neg e2).trans (if_pos e3)))) h
theorem gCx_3a (h : gCx q W nk ns ne W1 ne1 si g ki) (e0 : ¬ q 9 6 = 0) (e1 : ¬ q 9 6 = 1) (e2 : ¬ q 9 6 = 2) (e3 : q 9 6 = 3) (hz : q 10 3 = 0) : W1 = rset W (100 + ki) (zk5 (W (100 + ki)) (nI (q 11 97)) (W (100 + ki) 4)) ∧ ne1 = ne := by
  have h1 := gCx_3 h e0 e1 e2 e3
  rw [if_pos hz] at h1
  exact h1
theorem gCx_3b (h : gCx q W nk ns ne W1 ne1 si g ki) (e0 : ¬ q 9 6 = 0) (e1 : ¬ q 9 6 = 1) (e2 : ¬ q 9 6 = 2) (e3 : q 9 6 = 3) (hz : ¬ q 10 3 = 0) : W1 = rset W (100 + ki) (zk5 (W (100 + ki)) (nI 0) (W (100 + ki) 4)) ∧ ne1 = ne := by
  have h1 := gCx_3 h e0 e1 e2 e3
  rw [if_neg hz] at h1
  exact h1
theorem gCx_4 (h : gCx q W nk ns ne W1 ne1 si g ki) (e0 : ¬ q 9 6 = 0) (e1 : ¬ q 9 6 = 1) (e2 : ¬ q 9 6 = 2) (e3 : ¬ q 9 6 = 3) (e4 : q 9 6 = 4) : W1 = rset W (200 + si) (zs6 (W (200 + si)) (W (200 + si) 3) (gfz (nI (q 10 2)) (if q 11 2 = 0 then 1 else 0) (W (200 + si) 4)) (W (200 + si) 5)) ∧ ne1 = ne := Eq.mp ((if_neg e0).trans ((if_neg e1).trans ((if_neg e2).trans ((if_neg e3).trans (if_pos e4))))) h
theorem gCx_4a (h : gCx q W nk ns ne W1 ne1 si g ki) (e0 : ¬ q 9 6 = 0) (e1 : ¬ q 9 6 = 1) (e2 : ¬ q 9 6 = 2) (e3 : ¬ q 9 6 = 3) (e4 : q 9 6 = 4) (hz : q 11 2 = 0) : W1 = rset W (200 + si) (zs6 (W (200 + si)) (W (200 + si) 3) (gfz (nI (q 10 2)) 1 (W (200 + si) 4)) (W (200 + si) 5)) ∧ ne1 = ne := by
  have h1 := gCx_4 h e0 e1 e2 e3 e4
  rw [if_pos hz] at h1
  exact h1
theorem gCx_4b (h : gCx q W nk ns ne W1 ne1 si g ki) (e0 : ¬ q 9 6 = 0) (e1 : ¬ q 9 6 = 1) (e2 : ¬ q 9 6 = 2) (e3 : ¬ q 9 6 = 3) (e4 : q 9 6 = 4) (hz : ¬ q 11 2 = 0) : W1 = rset W (200 + si) (zs6 (W (200 + si)) (W (200 + si) 3) (gfz (nI (q 10 2)) 0 (W (200 + si) 4)) (W (200 + si) 5)) ∧ ne1 = ne := by
  have h1 := gCx_4 h e0 e1 e2 e3 e4
  rw [if_neg hz] at h1
  exact h1
theorem gCx_5 (h : gCx q W nk ns ne W1 ne1 si g ki) (e0 : ¬ q 9 6 = 0) (e1 : ¬ q 9 6 = 1) (e2 : ¬ q 9 6 = 2) (e3 : ¬ q 9 6 = 3) (e4 : ¬ q 9 6 = 4) : ∃ r, mOp W W1 nk ne ne1 si g (nI si) r := Eq.mp ((if_neg e0).trans ((if_neg e1).trans ((if_neg e2).trans ((if_neg e3).trans (if_neg e4))))) h
/-- the day stays -/
theorem mEn.q0 {W W' : Nat → Nat → Int32} {ne ne' : Nat} {kd ab : Int32} (h : mEn W W' ne ne' kd ab) : W' 0 = W 0 := h.row (r := 0) (by decide) (by decide)
theorem gOp_day {x : Int32} (h : mOp W W1 nk ne ne1 si g x r) : W1 0 2 = W 0 2 := by
  obtain ⟨t, -, -, -, h⟩ := h
  rcases h with ⟨-, -, h⟩ | ⟨-, -, -, W2, h1, h⟩ | ⟨-, -, W2, W3, W5, h1, h2, h3, h4, -⟩
  · rw [h.q0, rset_s]; rfl
  · rw [h.q0, rset_s]
    show W2 0 2 = _
    rw [h1.r (r := 0) (by decide) (by decide)]
  · rw [h4.r (r := 0) (by decide) (by decide), h3.q0, h2.1 0 (by omega), h1.r (r := 0) (by decide) (by decide)]
theorem gCs_day (h : gCs q W nk ns ne W1 nk1 ns1 ne1) : W1 0 2 = W 0 2 := by
  by_cases c1 : (nk < 8 ∧ q 0 3 = 0) ∨ nk = 0
  · rw [(gCs_K h c1).1, rset_n (by decide), rset_n (by omega)]
  · by_cases c2 : (ns < 6 ∧ q 4 3 = 0) ∨ ns = 0
    · obtain ⟨W2, fc, u1, u2, mc, y1, y2, y3, y4⟩ := (gCs_D h c1 c2).1
      rw [y4.q0, rset_n (by decide), rset_n (by omega), rset_n (by omega), rset_n (by omega), y1.1.2.2.1]
    · have hx := (gCs_X h c1 c2).1
      generalize q 5 ns = si at hx
      generalize q 6 (2 ^ nk) ||| q 7 (2 ^ nk) = g at hx
      generalize q 8 nk = ki at hx
      by_cases e0 : q 9 6 = 0
      · by_cases hz : 0 < zpop 9 (mgr W si g)
        · obtain ⟨W2, W4, W5, fc, w1, -, w3, w4, w5⟩ := gCx_0 hx e0 hz
          rw [w5.q0, w4.1 0 (by omega) (by omega), w3, rset_n (by omega), w1.1.2.2.1]
        · rw [(gCx_0n hx e0 hz).1]
      · by_cases e1 : q 9 6 = 1
        · obtain ⟨W2, w1, w2⟩ := gCx_1 hx e0 e1
          rw [w2.q0, w1.1 0 (by omega) (by omega)]
        · by_cases e2 : q 9 6 = 2
          · by_cases hz : zgd (W (300 + si)) (W (400 + si)) (W (200 + si) 3) ki = false ∧ rgd (W 7) (mgv W si) 1 (mgr W si g) = true
            · obtain ⟨r, t, W4, W6, W7, W8, b0, -, -, -, -, w4, -, w6, w7, w8, rfl, -⟩ := gCx_2 hx e0 e1 e2 hz.1 hz.2
              rw [rset_s]
              show W8 0 2 = _
              rw [w8.q0, w7.1 0 (by omega), w6, rset_n (by omega), rset_n (by omega), w4.r (r := 0) (by decide) (by decide)]
            · rw [(gCx_2n hx e0 e1 e2 hz).1]
          · by_cases e3 : q 9 6 = 3
            · rw [(gCx_3 hx e0 e1 e2 e3).1, rset_n (by omega)]
            · by_cases e4 : q 9 6 = 4
              · rw [(gCx_4 hx e0 e1 e2 e3 e4).1, rset_n (by omega)]
              · obtain ⟨r, hr⟩ := gCx_5 hx e0 e1 e2 e3 e4
                exact gOp_day hr
end GW
def gLaw (d : zD) (x1 x2 N dy : Nat) (G : zG) : Prop := ∃ (A : Nat → Nat) (D : Nat → UInt64) (V : Nat → Nat → Int32) (B : Nat → Nat) (E : Nat → UInt64) (U W : Nat → Nat → Int32) (nk ns ne : Nat), A 0 = x1 ∧ B 0 = x2 ∧ zQ d A D V nk ns B E U nk ns G ∧ zSM N V W nk ns ne ∧ zSM N U W nk ns ne ∧ gP W nk ns ∧ nk ≤ 8 ∧ ns ≤ 6 ∧ W 0 2 = nI dy
def gTw (x1 x2 N : Nat) (W : Nat → Nat → Int32) (nk ns ne : Nat) (W1 : Nat → Nat → Int32) (nk1 ns1 ne1 tw a b : Nat) (U : Nat → Nat → Int32) (mk ms : Nat) : Prop := (tw = 0 ∧ a = x1 ∧ b = x2 ∧ mk = nk ∧ ms = ns ∧ zSM N U W nk ns ne) ∨ (tw = 1 ∧ a = x2 ∧ b = x1 ∧ mk = nk1 ∧ ms = ns1 ∧ zSM (N + 2) U (gKn W1) nk1 ns1 ne1)

theorem zOp.v {V V' : Nat → Nat → Int32} {nk si : Nat} {set x : Int32} {r : Option Value} (h : zOp V V' nk si set x r) : ∃ v, r = some (.int v) := by
  obtain ⟨V4, -, h⟩ := h
  rcases h with ⟨-, h, -⟩ | ⟨-, -, h, -⟩ | ⟨-, -, V5, -, -, h⟩
  · exact ⟨_, h⟩
  · exact ⟨_, h⟩
  · exact ⟨_, h⟩
theorem zRb.v {V V' : Nat → Nat → Int32} {nk si ki : Nat} {w x : Int32} {r : Option Value} (h : zRb V V' nk si ki w x r) : ∃ v, r = some (.int v) := by
  obtain ⟨V4, V5, V6, -, -, -, -, -, h⟩ := h
  exact ⟨_, h⟩
theorem zFs.v {V V' : Nat → Nat → Int32} {si : Nat} {cw x : Int32} {r : Option Value} (h : zFs V V' si cw x r) : ∃ v, r = some (.int v) := by
  obtain ⟨V4, V5, -, -, -, h⟩ := h
  exact ⟨_, h⟩

section GV
variable {d : zD} {A : Nat → Nat} {D : Nat → UInt64} {V : Nat → Nat → Int32} {nk ns : Nat} {G G1 : zG} {r : Option Value}
theorem gV_open {x set : Int32} (hp : (fun r G1 => ∃ si, si < ns ∧ x = nI si ∧ zsetok nk set = true ∧ ∃ V', zT d A D V' nk ns G1 ∧ zOp V V' nk si set x r ∧ tFr A nk ns G G1) r G1) : ∃ v, r = some (.int v) := by
  obtain ⟨s9, h9, e9, hs, V', hT', hop, hF⟩ := hp
  exact hop.v
theorem gV_flood {x : Int32} (hp : (fun r G1 => zin x 0 3 = true ∧ ∃ V2 V', zT d A D V' nk ns G1 ∧ zFd V V2 ns x nk ∧ zEn V2 V' 2 x (V2 0 0) ∧ r = some (.int (zgone V ns x nk)) ∧ tFr A nk ns G G1) r G1) : ∃ v, r = some (.int v) := by
  obtain ⟨-, V2, V', hT', f1, f2, e, hF⟩ := hp
  exact ⟨_, e⟩
theorem gV_fresh {x set : Int32} (hp : (fun r G1 => ∃ s9, s9 < ns ∧ x = nI s9 ∧ zsetok nk set = true ∧ ¬ zbc (set &&& zset (zcur (V (400 + s9)) (V (200 + s9) 3)) 8) < V (200 + s9) 0 ∧ ∃ V', zT d A D V' nk ns G1 ∧ zFs V V' s9 (set &&& zset (zcur (V (400 + s9)) (V (200 + s9) 3)) 8) x r ∧ tFr A nk ns G G1) r G1) : ∃ v, r = some (.int v) := by
  obtain ⟨s9, h9, e9, -, -, V', hT', hfs, hF⟩ := hp
  exact hfs.v
theorem gV_rebuild {x k w : Int32} (hp : (fun r G1 => ∃ si, si < ns ∧ x = nI si ∧ ∃ ki, ki < nk ∧ k = nI ki ∧ zsetok nk w = true ∧ zcur (V (400 + si)) (V (200 + si) 3) ki = false ∧ ∃ V', zT d A D V' nk ns G1 ∧ zRb V V' nk si ki w x r ∧ tFr A nk ns G G1) r G1) : ∃ v, r = some (.int v) := by
  obtain ⟨s9, h9, e9, k9, hk9, ek9, -, -, V', hT', hrb, hF⟩ := hp
  exact hrb.v
theorem gV_lie {x w : Int32} (hp : (fun r G1 => ∃ k, k < nk ∧ x = nI k ∧ zin w 0 96 = true ∧ r = some (.int (V (100 + k) 4)) ∧ zT d A D (rset V (100 + k) (upd (V (100 + k)) 4 w)) nk ns G1 ∧ tFr A nk ns G G1) r G1) : ∃ v, r = some (.int v) := by
  obtain ⟨k9, h9, e9, hw, e, -⟩ := hp
  exact ⟨_, e⟩
theorem gV_freeze {x w x3 : Int32} (hp : (fun r G1 => ∃ k, k < ns ∧ w = nI k ∧ zin x 0 1 = true ∧ r = some (.int (zbc (if x3 = 0 then V (200 + k) 4 &&& ((1 <<< (x &&& 31)) ^^^ (-1)) else V (200 + k) 4 ||| (1 <<< (x &&& 31))))) ∧ zT d A D (rset V (200 + k) (z6 (V (200 + k)) (V (200 + k) 3) (if x3 = 0 then V (200 + k) 4 &&& ((1 <<< (x &&& 31)) ^^^ (-1)) else V (200 + k) 4 ||| (1 <<< (x &&& 31))) (V (200 + k) 5))) nk ns G1 ∧ tFr A nk ns G G1) r G1) : ∃ v, r = some (.int v) := by
  obtain ⟨k9, h9, e9, hx, e, -⟩ := hp
  exact ⟨_, e⟩
theorem gV_deal {x t z dt set : Int32} (hp : (fun r G1 => zdok nk x t z dt set = true ∧ ns < 6 ∧ r = some (.int (nI ns)) ∧ ∃ A' V', zNw A A' nk ns nk (ns + 1) G ∧ zT d A' D V' nk (ns + 1) G1 ∧ zDl V V' ns x t z dt set ∧ tFr A nk ns G G1) r G1) : ∃ v, r = some (.int v) := ⟨_, hp.2.2.1⟩
theorem gV_keeper {x z w : Int32} (hp : (zkok x z w = true ∧ nk < 8 ∧ r = some (.int (nI nk)) ∧ ∃ A', zNw A A' nk ns (nk + 1) ns G ∧ zT d A' D (rset (rset V (100 + nk) (z6k (nI nk) x z w)) 1 (fun _ => V 1 0 + 1)) (nk + 1) ns G1 ∧ tFr A nk ns G G1)) : ∃ v, r = some (.int v) := ⟨_, hp.2.2.1⟩
end GV

