
theorem zKn.row {V V' : Nat → Nat → Int32} (h : zKn V V') {r : Nat} (h0 : r ≠ 0) (h8 : r ≠ 8) (h9 : r ≠ 9) : V' r = V r := funext fun j => h r j ⟨h8, h9, fun e => absurd e h0⟩ (fun q => h0 q.1)
theorem zKn.at0 {V V' : Nat → Nat → Int32} (h : zKn V V') {j : Nat} (h1 : 1 ≤ j) (h5 : j ≤ 5) : V' 0 j = V 0 j := h 0 j ⟨by decide, by decide, fun _ => h5⟩ (by omega)
/-- what the reference's numbers keep to, where a group is asked -/
def mOk (V : Nat → Nat → Int32) (nk ns : Nat) (iv : Nat → Nat) : Prop := zIv (V 7) iv ∧ (∀ si, si < ns → ∀ k, k < 8 → zgd (V (300 + si)) (V (400 + si)) (V (200 + si) 3) k = true → ∃ j, j < 97 ∧ mgv V si k = nI j) ∧ ∀ k, k < nk → ∃ z, z < 4 ∧ V (100 + k) 0 = nI z
theorem mOk.of {V V' : Nat → Nat → Int32} {nk ns : Nat} {iv : Nat → Nat} (h : mOk V nk ns iv) (hk : ∀ r, r ≠ 0 → r ≠ 8 → r ≠ 9 → V' r = V r) : mOk V' nk ns iv := by
  refine ⟨by rw [hk 7 (by decide) (by decide) (by decide)]; exact h.1, fun si hsi k h8 hz => ?_, fun k hn => by rw [hk (100 + k) (by omega) (by omega) (by omega)]; exact h.2.2 k hn⟩
  rw [hk (300 + si) (by omega) (by omega) (by omega), hk (400 + si) (by omega) (by omega) (by omega), hk (200 + si) (by omega) (by omega) (by omega)] at hz
  obtain ⟨j, hj, e⟩ := h.2.1 si hsi k h8 hz
  exact ⟨j, hj, by rw [← e]; unfold mgv; rw [hk (300 + si) (by omega) (by omega) (by omega), hk (100 + k) (by omega) (by omega) (by omega)]⟩
theorem zKn.ok {V V' : Nat → Nat → Int32} (h : zKn V V') {nk ns : Nat} {iv : Nat → Nat} (ho : mOk V nk ns iv) : mOk V' nk ns iv := ho.of fun _ h0 h8 h9 => h.row h0 h8 h9
/-- the group of a set -/
def mgr (V : Nat → Nat → Int32) (si s : Nat) : Nat := zsetN (fun k => zgd (V (300 + si)) (V (400 + si)) (V (200 + si) 3) k && s.testBit k) 8
theorem mgr_lt {V : Nat → Nat → Int32} {si s : Nat} : mgr V si s < 256 := (zset_N _ 8 (by decide)).2
theorem mgr_at {V : Nat → Nat → Int32} {si s k : Nat} (hk : k < 8) : (mgr V si s).testBit k = (zgd (V (300 + si)) (V (400 + si)) (V (200 + si) 3) k && s.testBit k) := by
  unfold mgr
  rw [zsN_at _ 8 (by decide) k (by omega), decide_eq_true hk, Bool.true_and]
theorem mgr_le {V : Nat → Nat → Int32} {si s : Nat} (hs : s < 256) : mgr V si s ≤ s := by
  have := zsN_le (f := fun k => zgd (V (300 + si)) (V (400 + si)) (V (200 + si) 3) k && s.testBit k) (g := fun k => s.testBit k) 8 (fun k _ h1 => by rw [Bool.and_eq_true] at h1; exact h1.2)
  rw [zsN_self8 s hs] at this
  exact this
theorem mgr_sm {V : Nat → Nat → Int32} {nk ns si s : Nat} {iv : Nat → Nat} (ho : mOk V nk ns iv) (hsi : si < ns) : zSm (mgv V si) (mgr V si s) := fun k hk h1 => by
  rw [mgr_at hk, Bool.and_eq_true] at h1
  exact ho.2.1 si hsi k hk h1.1
theorem zand_N {f : Nat → Bool} {s : Nat} (hs : s < 256) : zset f 8 &&& nI s = nI (zsetN (fun k => f k && s.testBit k) 8) := by
  have h1 := zset_N f 8 (by decide)
  have h2 := (zset_N (fun k => f k && s.testBit k) 8 (by decide)).2
  rw [h1.1, nI_and (by omega) (by omega)]
  have hle : zsetN f 8 &&& s ≤ s := Nat.and_le_right
  refine congrArg nI (tb_ext (by omega) (by omega) fun k hk => ?_)
  rw [Nat.testBit_and, zsN_at f 8 (by decide) k hk, zsN_at _ 8 (by decide) k hk, Bool.and_assoc]
/-- thrown, and nothing done -/
def mThr (d : zD) (B : Nat → Nat) (nk ns ne ec : Nat) (V : Nat → Nat → Int32) (G : zG) (t : Int32) (r : Option Value) (G1 : zG) : Prop := r = some (.int 0) ∧ ∃ V', zM d B V' nk ns ne ec G1 ∧ V' 0 0 = t ∧ zKn V V' ∧ mFr B nk ns ne G G1

theorem zor_1 {x : Int32} {b : Bool} (h : x = zb b) : x ||| 1 = zb true := by subst h; cases b <;> rfl
theorem zor_0 {x : Int32} {b : Bool} (h : x = zb b) : x ||| 0 = zb b := by subst h; cases b <;> rfl
theorem zor_bb {x : Int32} {b : Bool} (h : x = zb b) (c : Bool) : x ||| zb c = zb (b || c) := by subst h; cases b <;> cases c <;> rfl

section ZMZ
variable {d : zD} {B : Nat → Nat} {V : Nat → Nat → Int32} {nk ns ne ec : Nat} {G G1 : zG}
/-- a share is written, of a keeper that there is -/
theorem zM.putshE (h : zM d B V nk ns ne ec G) {i k : Nat} (hi : i < ns) (hk : k < nk) (x : Int32) : zM d B (rset V (300 + i) (upd (V (300 + i)) k x)) nk ns ne ec (zu G (B (300 + i)) (zI d 8 (upd (V (300 + i)) k x))) ∧ mFr B nk ns ne G (zu G (B (300 + i)) (zI d 8 (upd (V (300 + i)) k x))) := by
  have hn : ns ≤ 6 := h.2.2.1
  exact ⟨h.put (ml_sh hi) _ rfl (mcell_a (by omega) (by omega) _).symm (h.2.sh (fun j h1 h2 => (pk_un (by omega)).trans (h.off hi h1 h2)) (by omega)), zM.frput (ml_sh hi) rfl⟩
theorem zM.putepE (h : zM d B V nk ns ne ec G) {i : Nat} (hi : i < ns) (v : Nat → Int32) : zM d B (rset V (400 + i) v) nk ns ne ec (zu G (B (400 + i)) (zI d 8 v)) ∧ mFr B nk ns ne G (zu G (B (400 + i)) (zI d 8 v)) := by
  have hn : ns ≤ 6 := h.2.2.1
  exact ⟨h.put (ml_ep hi) v rfl (mcell_a (by omega) (by omega) _).symm (h.2.off (Or.inr (by omega))), zM.frput (ml_ep hi) rfl⟩
abbrev zms (B : Nat → Nat) (V : Nat → Nat → Int32) (i : Nat) (a b c : Int32) : va_E := zob 11 [.int (V (200 + i) 0), .int (V (200 + i) 1), .int (V (200 + i) 2), .int a, .int b, .int c, .ref (B (300 + i)), .ref (B (400 + i))]
def zs6 (f : Nat → Int32) (a b c : Int32) : Nat → Int32 | 0 => f 0 | 1 => f 1 | 2 => f 2 | 3 => a | 4 => b | 5 => c | _ => 0
theorem zM.puts (h : zM d B V nk ns ne ec G) {i : Nat} (hi : i < ns) (a b : Int32) (c : Bool) : zM d B (rset V (200 + i) (zs6 (V (200 + i)) a b (zb c))) nk ns ne ec (zu G (B (200 + i)) (zms B V i a b (zb c))) ∧ mFr B nk ns ne G (zu G (B (200 + i)) (zms B V i a b (zb c))) := by
  have hn : ns ≤ 6 := h.2.2.1
  exact ⟨h.put (ml_i hi) (zs6 (V (200 + i)) a b (zb c)) rfl (mcell_i (i := i) (d := d) (B := B) (ec := ec) (nk := nk) (ns := ns) (ne := ne) (by omega) (zs6 (V (200 + i)) a b (zb c))).symm (h.2.sec rfl ⟨c, rfl⟩ (by omega)), zM.frput (ml_i hi) rfl⟩
abbrev zmk (V : Nat → Nat → Int32) (k : Nat) (a b : Int32) : va_E := zob 10 [.int (V (100 + k) 0), .int (V (100 + k) 1), .int (V (100 + k) 2), .int a, .int b]
def zk5 (f : Nat → Int32) (a b : Int32) : Nat → Int32 | 0 => f 0 | 1 => f 1 | 2 => f 2 | 3 => a | 4 => b | _ => 0
theorem zM.putk (h : zM d B V nk ns ne ec G) {k : Nat} (hk : k < nk) (a : Int32) (c : Bool) : zM d B (rset V (100 + k) (zk5 (V (100 + k)) a (zb c))) nk ns ne ec (zu G (B (100 + k)) (zmk V k a (zb c))) ∧ mFr B nk ns ne G (zu G (B (100 + k)) (zmk V k a (zb c))) := by
  have hn : nk ≤ 8 := h.2.1
  exact ⟨h.put (ml_k hk) (zk5 (V (100 + k)) a (zb c)) rfl (mcell_k (k := k) (d := d) (B := B) (ec := ec) (nk := nk) (ns := ns) (ne := ne) (by omega) (zk5 (V (100 + k)) a (zb c))).symm (h.2.kee ⟨c, rfl⟩ (by omega)), zM.frput (ml_k hk) rfl⟩
end ZMZ


def zBk (B : Nat → Nat) (nk a b : Nat) : Nat → Nat := fun r => if r = 100 + nk then a else if r = 2 then b else B r
abbrev zk0 (w : Nat → Int32) : va_E := zob 10 [.int (w 0), .int (w 1), .int (w 2), .int (w 3), .int (w 4)]
def zw5 (a b c e f : Int32) : Nat → Int32 | 0 => a | 1 => b | 2 => c | 3 => e | _ => f
section ZMK
variable {d : zD} {B : Nat → Nat} {V : Nat → Nat → Int32} {nk ns ne ec : Nat} {G G1 : zG}
set_option maxHeartbeats 4000000 in
/-- a keeper more -/
theorem zM.newk (h : zM d B V nk ns ne ec G) (hk : nk < 8) {a b : Nat} {f' : Nat → Option Nat} (w : Nat → Int32) (hw4 : ∃ b, w 4 = zb b) (mc : Int32) (ha : G a = none) (hd : (b = B 2 ∧ 0 < nk) ∨ (G b = none ∧ a ≠ b)) (hf : f' = fun j => if j < nk + 1 then some (zBk B nk a b (100 + j)) else none) :
    zM d (zBk B nk a b) (rset (rset V (100 + nk) w) 1 (fun _ => mc)) (nk + 1) ns ne ec (zu (zu (zu G a (zk0 w)) b (zO d 10 f')) (B 1) (zob 2 [.int mc, .ref b, .int (nI (nk + 1))])) ∧ mNw B (zBk B nk a b) nk ns ne (nk + 1) ns ne G ∧ mFr B nk ns ne G (zu (zu (zu G a (zk0 w)) b (zO d 10 f')) (B 1) (zob 2 [.int mc, .ref b, .int (nI (nk + 1))])) := by
  have e1 : ∀ r, r ≠ 100 + nk → r ≠ 2 → zBk B nk a b r = B r := fun r h1 h2 => (if_neg h1).trans (if_neg h2)
  have e2x : zBk B nk a b 2 = b := (if_neg (by omega)).trans (if_pos rfl)
  have ekx : zBk B nk a b (100 + nk) = a := if_pos rfl
  have hold : ∀ r, mlive (nk + 1) ns ne r → r ≠ 100 + nk → r ≠ 2 → mlive nk ns ne r := fun r hr h1 h2 => by unfold mlive at *; omega
  have hna : ∀ r, mlive nk ns ne r → B r ≠ a := h.nn_ ha
  have hab : a ≠ b := by
    rcases hd with ⟨rfl, h0⟩ | ⟨-, h2⟩
    · exact (hna 2 (ml_2 h0)).symm
    · exact h2
  have hbr : ∀ r, mlive nk ns ne r → r ≠ 2 → B r ≠ b := fun r hr h2 e => by
    rcases hd with ⟨rfl, h0⟩ | ⟨hb, -⟩
    · exact h2 (h.1.1 r 2 hr (ml_2 h0) e)
    · exact h.nn_ hb r hr e
  have h5b : B 1 ≠ b := hbr 1 (ml_s 1) (by decide)
  have hbn : (0 < nk ∧ b = B 2) ∨ G b = none := by
    rcases hd with ⟨rfl, h0⟩ | ⟨hb, -⟩
    · exact Or.inl ⟨h0, rfl⟩
    · exact Or.inr hb
  have hNN : ∀ r, mlive (nk + 1) ns ne r → (mlive nk ns ne r ∧ zBk B nk a b r = B r) ∨ G (zBk B nk a b r) = none := fun r hr => by
    by_cases r1 : r = 100 + nk
    · exact Or.inr (by rw [r1, ekx]; exact ha)
    · by_cases r2 : r = 2
      · subst r2
        rcases hbn with ⟨h0, hb⟩ | hb
        · exact Or.inl ⟨ml_2 h0, by rw [e2x]; exact hb⟩
        · exact Or.inr (by rw [e2x]; exact hb)
      · exact Or.inl ⟨hold r hr r1 r2, e1 r r1 r2⟩
  refine ⟨⟨h.1.grow hNN (fun r q hr hq n1 n2 e => ?_) (fun r hr => ?_), ?_⟩, ⟨e1 0 (by omega) (by decide), fun r hr => ?_⟩, ?_⟩
  · have hcl : ∀ z, mlive (nk + 1) ns ne z → G (zBk B nk a b z) = none → z = 100 + nk ∨ z = 2 := fun z hz hn => by
      by_cases z1 : z = 100 + nk
      · exact Or.inl z1
      · by_cases z2 : z = 2
        · exact Or.inr z2
        · rw [e1 z z1 z2] at hn
          exact absurd hn (h.ne0 z (hold z hz z1 z2))
    rcases hcl r hr n1 with r1 | r1 <;> rcases hcl q hq n2 with q1 | q1
    · omega
    · rw [r1, q1, ekx, e2x] at e; exact absurd e hab
    · rw [r1, q1, ekx, e2x] at e; exact absurd e.symm hab
    · omega
  · by_cases r1 : r = 100 + nk
    · subst r1
      rw [ekx, zu_n (hna 1 (ml_s 1)).symm, zu_n hab, zu_s, rset_n (by omega), rset_s, mcell_k (by omega)]
    · by_cases r2 : r = 2
      · subst r2
        rw [e2x, zu_n h5b.symm, zu_s, hf]
        rfl
      · by_cases r3 : r = 1
        · subst r3
          rw [e1 1 (by omega) (by decide), zu_s, rset_s]
          show _ = some (zob 2 [.int mc, .ref (if nk + 1 = 0 then d.2.2 else zBk B nk a b 2), .int (nI (nk + 1))])
          rw [if_neg (by omega), e2x]
        · have hl := hold r hr r1 r2
          rw [e1 r r1 r2, zu_n (fun e => r3 (h.1.1 r 1 hl (ml_s 1) e)), zu_n (hbr r hl r2), zu_n (hna r hl), rset_n r3, rset_n r1]
          refine (h.1.2 r hl).trans (congrArg some ?_)
          have hns := h.2.2.1
          have hne := h.2.2.2.1
          by_cases r4 : r = 3
          · subst r4
            show zob 2 [_, .ref (if ns = 0 then d.2.2 else B 4), _] = zob 2 [_, .ref (if ns = 0 then d.2.2 else zBk B nk a b 4), _]
            rw [e1 4 (by omega) (by decide)]
          · by_cases r5 : r = 4
            · subst r5
              show zO d 10 _ = zO d 10 (fun j => if j < ns then some (zBk B nk a b (200 + j)) else Option.none)
              have : (fun j => if j < ns then some (zBk B nk a b (200 + j)) else Option.none) = (fun j => if j < ns then some (B (200 + j)) else Option.none) := funext fun j => by rw [e1 (200 + j) (by omega) (by omega)]
              rw [this]
            · by_cases r6 : r = 5
              · subst r6
                show zob 2 [_, .ref (if ne = 0 then d.2.2 else B 6), _] = zob 2 [_, .ref (if ne = 0 then d.2.2 else zBk B nk a b 6), _]
                rw [e1 6 (by omega) (by decide)]
              · by_cases r7 : r = 6
                · subst r7
                  show zO d ec _ = zO d ec (fun j => if j < ne then some (zBk B nk a b (500 + j)) else Option.none)
                  have : (fun j => if j < ne then some (zBk B nk a b (500 + j)) else Option.none) = (fun j => if j < ne then some (B (500 + j)) else Option.none) := funext fun j => by rw [e1 (500 + j) (by omega) (by omega)]
                  rw [this]
                · exact (mcell_B r3 r2 r4 r5 r6 r7 (fun q q1 q2 q3 q4 q5 => e1 q (by omega) q3) (fun g1 g2 => ⟨e1 _ (by omega) (by omega), e1 _ (by omega) (by omega)⟩)).symm
  · obtain ⟨i1, i2, i3, i4, i5, i6, i7, i8, i9⟩ := h.2
    refine ⟨by omega, i2, i3, i4, i5, fun q hq => by rw [rset_n (by omega), rset_n (by omega)]; exact i6 q hq, fun q hq j h1 h2 => by rw [rset_n (by omega), rset_n (by omega)]; exact i7 q hq j (by omega) h2, fun q hq => by rw [rset_n (by omega), rset_n (by omega)]; exact i8 q hq, fun q hq => ?_⟩
    by_cases ek : q = nk
    · subst ek; rw [rset_n (by omega), rset_s]; exact hw4
    · rw [rset_n (by omega), rset_n (by omega)]; exact i9 q (by omega)
  · rcases hNN r hr with ⟨l, e⟩ | e
    · exact Or.inl ⟨r, l, e⟩
    · exact Or.inr e
  · have f1 : mFr B nk ns ne G (zu G a (zk0 w)) := mFr.nw zFr.rf ha
    have f2 : mFr B nk ns ne G (zu (zu G a (zk0 w)) b (zO d 10 f')) := by
      rcases hbn with ⟨h0, rfl⟩ | hb
      · exact f1.tr (zM.frput (ml_2 h0) rfl)
      · exact f1.nw hb
    exact f2.tr (zM.frput (ml_s 1) rfl)

end ZMK
theorem mFr.none_ {d : zD} {B : Nat → Nat} {V : Nat → Nat → Int32} {nk ns ne ec : Nat} {G G2 : zG} {b : Nat} (hF : mFr B nk ns ne G G2) (h : zM d B V nk ns ne ec G2) (hb : G2 b = none) : G b = none := by
  cases e : G b with
  | none => rfl
  | some v => rw [hF b v e (fun r hr => (h.nn_ hb r hr).symm)] at hb; cases hb

