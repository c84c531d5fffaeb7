
/-- a number of the tree's row r, as the reference reckons it; one leaf may be told otherwise -/
def znode (W : Nat → Nat → Int32) (ne : Nat) (o lf : Int32) : Nat → Nat → Int32
  | 0, k => if nI k = o then lf else if k < ne then W (500 + k) 3 else 0
  | r + 1, k => zr9 (31 * znode W ne o lf r (2 * k) + 17 * znode W ne o lf r (2 * k + 1) + 5)

def mBkA (V : Nat → Nat → Int32) (nk ns ne w : Nat) : Int32 := upd (upd (upd (upd (upd (upd (upd (upd (upd (upd (upd (upd (fun _ => 0) 0 (nI nk)) 1 (nI ns)) 2 (V 0 2)) 3 (V 0 1)) 4 (nI ne)) 5 (if nI w = 5 then znode V ne (-1) 0 6 0 else 0)) 6 (V 0 3)) 7 (V 0 4)) 8 (V 0 5)) 9 (nI (zcnt (fun k => decide (V (100 + k) 4 ≠ 0)) nk))) 10 (zsum (fun i => nI (zpop 9 (zsetN (zgd (V (300 + i)) (V (400 + i)) (V (200 + i) 3)) 8))) ns)) 11 (zsum (fun i => nI (zpop 9 (zsetN (zst (V (300 + i)) (V (400 + i)) (V (200 + i) 3)) 8))) ns) w
def rBk (nk ns ne : Nat) (w t b : Int32) (W : Nat → Nat → Int32) : Prop := (zin w 0 11 = false ∧ t = 1) ∨ (∃ q, q < 12 ∧ w = nI q ∧ t = 0 ∧ b = mBkA W nk ns ne q)


/-- the cheapest, from the last one down: of those ahead i there are nk - i -/
def zcd (f : Nat → Bool) (p : Nat → Int32) (nk : Nat) : Nat → Nat
  | 0 => 0
  | i + 1 => if f (nk - 1 - i) = true ∧ (zcd f p nk i = 0 ∨ ¬ p (zcd f p nk i - 1) < p (nk - 1 - i)) then nk - 1 - i + 1 else zcd f p nk i
theorem zcd_t {f : Nat → Bool} {p : Nat → Int32} {nk i : Nat} (h : f (nk - 1 - i) = true) (h2 : zcd f p nk i = 0 ∨ ¬ p (zcd f p nk i - 1) < p (nk - 1 - i)) : zcd f p nk (i + 1) = nk - 1 - i + 1 := if_pos ⟨h, h2⟩
theorem zcd_f {f : Nat → Bool} {p : Nat → Int32} {nk i : Nat} (h : f (nk - 1 - i) = false ∨ ¬ (zcd f p nk i = 0 ∨ ¬ p (zcd f p nk i - 1) < p (nk - 1 - i))) : zcd f p nk (i + 1) = zcd f p nk i := if_neg (fun q => h.elim (fun e => by rw [q.1] at e; cases e) (fun e => e q.2))
theorem zcd_le (f : Nat → Bool) (p : Nat → Int32) (nk : Nat) : ∀ i, i ≤ nk → zcd f p nk i ≤ nk
  | 0, _ => Nat.zero_le _
  | i + 1, h => by
    have := zcd_le f p nk i (by omega)
    unfold zcd
    split <;> omega
def zw1 : Nat → Int32
  | 0 => -1
  | b + 1 => nI b
/-- the reference's cheapest n -/
def rbB (f : Nat → Bool) (nk : Nat) (p : Nat → Int32) : Nat → Nat
  | 0 => 0
  | n + 1 => zput (rbB f nk p n) (zcd (fun k => f k && !(rbB f nk p n).testBit k) p nk nk)
theorem rbB_lt {nk : Nat} (hk : nk ≤ 8) (f : Nat → Bool) (p : Nat → Int32) : ∀ n, rbB f nk p n < 512
  | 0 => by show (0 : Nat) < 512; decide
  | n + 1 => (zput_c (rbB_lt hk f p n) (by have := zcd_le (fun k => f k && !(rbB f nk p n).testBit k) p nk nk (Nat.le_refl _); omega)).2
def rno (f : Nat → Bool) (nk : Nat) (p : Nat → Int32) (n : Nat) : Bool := decide (zcd (fun k => f k && !(rbB f nk p n).testBit k) p nk nk = 0)
def rBo (f : Nat → Bool) (nk t : Nat) (p : Nat → Int32) : Int32 := if zany (rno f nk p) t = true then 0 else nI (rbB f nk p t)
def mSeA (V : Nat → Nat → Int32) (nk si t : Nat) : Nat → Int32 := upd (upd (upd (upd (upd (upd (upd (upd (upd (fun _ => 0) 0 (V (200 + si) 0)) 1 (V (200 + si) 1)) 2 (V (200 + si) 2)) 3 (V (200 + si) 3)) 4 (zset (zgd (V (300 + si)) (V (400 + si)) (V (200 + si) 3)) 8)) 5 (zset (zst (V (300 + si)) (V (400 + si)) (V (200 + si) 3)) 8)) 6 (zbc (V (200 + si) 4))) 7 (if rBo (zgd (V (300 + si)) (V (400 + si)) (V (200 + si) 3)) nk t (fun k => V (100 + k) 1) = 0 then -1 else zpri (rBo (zgd (V (300 + si)) (V (400 + si)) (V (200 + si) 3)) nk t (fun k => V (100 + k) 1)) (fun k => V (100 + k) 1) nk)) 8 (rBo (zgd (V (300 + si)) (V (400 + si)) (V (200 + si) 3)) nk t (fun k => V (100 + k) 1))
def rSe (nk ns : Nat) (x w t b : Int32) (V : Nat → Nat → Int32) : Prop := (zin x 0 (nI ns - 1) = false ∧ t = 1) ∨ (∃ si, si < ns ∧ x = nI si ∧ ((zin w 0 8 = false ∧ t = 2) ∨ (∃ q, q < 9 ∧ w = nI q ∧ t = 0 ∧ ∃ t9, 1 ≤ t9 ∧ t9 ≤ 4 ∧ V (200 + si) 0 = nI t9 ∧ b = mSeA V nk si t9 q)))


def qWd (V : Nat → Nat → Int32) (nk si g t : Nat) (w : Int32) : Int32 := if w = 0 then nI (zpop 9 (mgr V si g)) else if w = 1 then zb (mlw V nk si (nI (mgr V si g))) else if nI t ≤ nI (zpop 9 (mgr V si g)) then (if w = 5 then nI (zpop 9 (rag (V 7) (mgv V si) (mgr V si g) (rmb (V 7) (mgv V si) t (mgr V si g) (mgr V si g)).1)) else if nI (zpop 9 (zsetN (fun k => (mgr V si g).testBit k && !(rag (V 7) (mgv V si) (mgr V si g) (rmb (V 7) (mgv V si) t (mgr V si g) (mgr V si g)).1).testBit k) 9)) ≤ (nI (zpop 9 (mgr V si g)) - nI t) / 2 then (if w = 2 then 1 else if w = 3 then zth (V 7) (gvs (mgv V si)) (nI (2 * (rmb (V 7) (mgv V si) t (mgr V si g) (mgr V si g)).1)) (nI 0) else nI (mgr V si g) &&& (nI (rag (V 7) (mgv V si) (mgr V si g) (rmb (V 7) (mgv V si) t (mgr V si g) (mgr V si g)).1) ^^^ (-1))) else (if w = 3 then -1 else 0)) else (if w = 3 then -1 else 0)
theorem mlw_k {V V2 : Nat → Nat → Int32} (h : zKp msc V V2) (nk si : Nat) (s : Int32) : mlw V2 nk si s = mlw V nk si s := by
  unfold mlw
  rw [show (fun k => V2 (100 + k) 0) = (fun k => V (100 + k) 0) from funext fun k => by rw [h.r (r := 100 + k) (by omega) (by omega)], h.r (r := 200 + si) (by omega) (by omega), h.r (r := 0) (by decide) (by decide)]
theorem mgr_k {V V2 : Nat → Nat → Int32} (h : zKp msc V V2) (si g : Nat) : mgr V2 si g = mgr V si g := by
  unfold mgr
  rw [h.r (r := 300 + si) (by omega) (by omega), h.r (r := 400 + si) (by omega) (by omega), h.r (r := 200 + si) (by omega) (by omega)]
theorem qWd_k {V V2 : Nat → Nat → Int32} (h : zKp msc V V2) {nk si g t : Nat} {w : Int32} : qWd V2 nk si g t w = qWd V nk si g t w := by
  unfold qWd
  rw [mgr_k h, mlw_k h, h.mg, h.r (r := 7) (by decide) (by decide)]
def rWd (nk ns : Nat) (x set w t b : Int32) (W : Nat → Nat → Int32) : Prop := (zin x 0 (nI ns - 1) = false ∧ t = 1) ∨ (∃ s, s < ns ∧ x = nI s ∧ (((zsetok nk set = false ∨ zin w 0 5 = false) ∧ t = 2) ∨ (∃ g, g < 2 ^ nk ∧ set = nI g ∧ zin w 0 5 = true ∧ t = 0 ∧ ∃ t9, 1 ≤ t9 ∧ t9 ≤ 4 ∧ W (200 + s) 0 = nI t9 ∧ b = qWd W nk s g t9 w)))


def fml (V : Nat → Nat → Int32) (nk s b : Nat) : Bool := if nI (zpop 9 s) = nI (zpop 9 b) then decide (zpri (nI s) (fun k => V (100 + k) 1) nk - zpri (nI b) (fun k => V (100 + k) 1) nk < 0) else decide (nI (zpop 9 s) - nI (zpop 9 b) < 0)
def fmc (V : Nat → Nat → Int32) (nk si s : Nat) : Bool := decide (nI s &&& (nI (zsetN (zgd (V (300 + si)) (V (400 + si)) (V (200 + si) 3)) 8) ^^^ (-1)) = 0) && (decide (V (200 + si) 0 ≤ nI (zpop 9 s)) && decide (V (200 + si) 1 ≤ zbc (zzo (nI s) (fun k => V (100 + k) 0) nk)))
def mFw (V : Nat → Nat → Int32) (nk si : Nat) : Int32 := nI (zfB (fmc V nk si) (fml V nk) 255)
def rFw (nk ns : Nat) (x t b : Int32) (V : Nat → Nat → Int32) : Prop := (zin x 0 (nI ns - 1) = false ∧ t = 1) ∨ (∃ si, si < ns ∧ x = nI si ∧ t = 0 ∧ b = mFw V nk si)


def mLo (V : Nat → Nat → Int32) (nk si : Nat) : UInt64 := zls (zlsF (zgd (V (300 + si)) (V (400 + si)) (V (200 + si) 3)) (fun k => V (100 + k) 2) nk) (V (200 + si) 0).toNatClampNeg
theorem nI_npos {k : Nat} (h : 1 ≤ k) (hk : k < 2 ^ 20) : ¬ nI k ≤ 0 := fun q => by
  have := (nI_leI (a := k) (b := 0) (by omega) (by decide)).mp (by rw [nI_0]; exact q)
  omega
/-- .. of a double -/
def mAqd (d : zD) (B : Nat → Nat) (nk ns ne ec : Nat) (V : Nat → Nat → Int32) (G : zG) (T : Int32 → UInt64 → (Nat → Nat → Int32) → Prop) : Option Value → zG → Prop := fun r G1 => ∃ (v : UInt64) (W' : Nat → Nat → Int32), r = some (.double v) ∧ T (W' 0 0) v W' ∧ zM d B W' nk ns ne ec G1 ∧ zKn V W' ∧ mFr B nk ns ne G G1
def rLo (nk ns : Nat) (x t : Int32) (u : UInt64) (W : Nat → Nat → Int32) : Prop := (zin x 0 (nI ns - 1) = false ∧ t = 1) ∨ (∃ si, si < ns ∧ x = nI si ∧ t = 0 ∧ u = mLo W nk si)


def ocW (V : Nat → Nat → Int32) (si : Nat) : Bool := zall (roK (V 7) (gvs (V (300 + si))) (zgp (zgd (V (300 + si)) (V (400 + si)) (V (200 + si) 3))) (V (200 + si) 0).toNatClampNeg) 9
theorem ocW_t {V : Nat → Nat → Int32} {si t : Nat} (ht : V (200 + si) 0 = nI t) (h4 : t < 2 ^ 20) (h : zall (roK (V 7) (gvs (V (300 + si))) (zgp (zgd (V (300 + si)) (V (400 + si)) (V (200 + si) 3))) t) 9 = true) : some (Value.int 1) = some (Value.int (zb (ocW V si))) := by
  unfold ocW
  rw [ht, nI_clamp (by omega), h]
  rfl
theorem ocW_f {V : Nat → Nat → Int32} {si t : Nat} (ht : V (200 + si) 0 = nI t) (h4 : t < 2 ^ 20) (h : zall (roK (V 7) (gvs (V (300 + si))) (zgp (zgd (V (300 + si)) (V (400 + si)) (V (200 + si) 3))) t) 9 = false) : some (Value.int 0) = some (Value.int (zb (ocW V si))) := by
  unfold ocW
  rw [ht, nI_clamp (by omega), h]
  rfl
def rSnd (V : Nat → Nat → Int32) (si : Nat) : Bool := decide (V (200 + si) 5 ≠ 0) || ocW V si
/-- the reference's numbers are as they must be -/
def rdOk (V : Nat → Nat → Int32) (nk ns : Nat) : Prop := (∀ si, si < ns → ∀ k, k < 8 → V (400 + si) k ≤ V (200 + si) 3 ∧ (V (300 + si) k = -1 ∨ ∃ s, s < 97 ∧ V (300 + si) k = nI s)) ∧ ∀ k, k < nk → ∃ l, l < 97 ∧ V (100 + k) 3 = nI l

theorem rSnd_0 {V : Nat → Nat → Int32} {i : Nat} (c : ¬ V (200 + i) 5 = 0) : rSnd V i = true := by
  unfold rSnd
  rw [decide_eq_true (p := V (200 + i) 5 ≠ 0) c, Bool.true_or]
theorem rSnd_1 {V : Nat → Nat → Int32} {i : Nat} (c : ¬ zb (ocW V i) = 0) : rSnd V i = true := by
  unfold rSnd
  rw [(zb_n0 _).mp c, Bool.or_true]
theorem rSnd_2 {V : Nat → Nat → Int32} {i : Nat} (c : V (200 + i) 5 = 0) (c2 : zb (ocW V i) = 0) : rSnd V i = false := by
  unfold rSnd
  rw [(zb_0 _).mp c2, Bool.or_false, decide_eq_false (p := V (200 + i) 5 ≠ 0) (fun z => z c)]
theorem zbs_t {b : Bool} (h : b = true) : some (Value.int 1) = some (Value.int (zb b)) := by subst h; rfl
theorem zbs_f {b : Bool} (h : b = false) : some (Value.int 0) = some (Value.int (zb b)) := by subst h; rfl
theorem zin_sh {x : Int32} (h : x = -1 ∨ ∃ s, s < 97 ∧ x = nI s) : zin x (-1) 96 = true := by
  rcases h with rfl | ⟨s, hs, rfl⟩
  · decide
  · have key : ∀ s, s < 97 → zin (nI s) (-1) 96 = true := by decide +kernel
    exact key s hs

theorem rdOk.k {V V' : Nat → Nat → Int32} {nk ns : Nat} (h : zKn V V') (hs : ns ≤ 6) (hr : rdOk V nk ns) : rdOk V' nk ns := by
  refine ⟨fun si hsi k hk => ?_, fun k hk => ?_⟩
  · rw [h.row (r := 200 + si) (by omega) (by omega) (by omega), h.row (r := 300 + si) (by omega) (by omega) (by omega), h.row (r := 400 + si) (by omega) (by omega) (by omega)]
    exact hr.1 si hsi k hk
  · rw [h.row (r := 100 + k) (by omega) (by omega) (by omega)]
    exact hr.2 k hk








def rSeD (V : Nat → Nat → Int32) (nk si : Nat) (x : Int64) : Int64 := dgS x (fun w => mSeA V nk si (V (200 + si) 0).toNatClampNeg w) (fun k w => qSm V si k (nI w)) (fun w => qWd V nk si (2 ^ nk - 1) (V (200 + si) 0).toNatClampNeg (nI w)) (mFw V nk si) (mLo V nk si) nk
def rAl (V : Nat → Nat → Int32) (nk ns ne : Nat) : Int64 := dgE (dgT (fun s => rSeD V nk s) (zdk (zdg 7507 (fun w => (mBkA V nk ns ne w).toInt64) 12) (fun k w => (mKeA V ns k w).toInt64) 7 nk) ns) (fun e => V (500 + e) 3) ne (zall (rSnd V) ns)
/-- .. of a long -/
def mAql (d : zD) (B : Nat → Nat) (nk ns ne ec : Nat) (V : Nat → Nat → Int32) (G : zG) : Option Value → zG → Prop := fun r G1 => ∃ (W1 W' : Nat → Nat → Int32), r = some (.long (rAl W1 nk ns ne)) ∧ zKn V W1 ∧ zM d B W' nk ns ne ec G1 ∧ zKn V W' ∧ mFr B nk ns ne G G1
section RGK
variable {V V2 : Nat → Nat → Int32} {nk ns ne si t : Nat}
theorem znode_k (h : zKp msc V V2) (o lf : Int32) : ∀ r k, znode V2 ne o lf r k = znode V ne o lf r k
  | 0, k => by
    show (if nI k = o then lf else if k < ne then V2 (500 + k) 3 else 0) = (if nI k = o then lf else if k < ne then V (500 + k) 3 else 0)
    rw [h.r (r := 500 + k) (by omega) (by omega)]
  | r + 1, k => by
    show zr9 (31 * znode V2 ne o lf r (2 * k) + 17 * znode V2 ne o lf r (2 * k + 1) + 5) = zr9 (31 * znode V ne o lf r (2 * k) + 17 * znode V ne o lf r (2 * k + 1) + 5)
    rw [znode_k h o lf r (2 * k), znode_k h o lf r (2 * k + 1)]
theorem zKp.f1 (h : zKp msc V V2) (j : Nat) : (fun k => V2 (100 + k) j) = (fun k => V (100 + k) j) := funext fun k => by rw [h.r (r := 100 + k) (by omega) (by omega)]
theorem mBkA_k (h : zKp msc V V2) {w : Nat} : mBkA V2 nk ns ne w = mBkA V nk ns ne w := by
  unfold mBkA
  rw [h.r (r := 0) (by decide) (by decide), znode_k h, show (fun k => decide (V2 (100 + k) 4 ≠ 0)) = (fun k => decide (V (100 + k) 4 ≠ 0)) from funext fun k => by rw [h.r (r := 100 + k) (by omega) (by omega)], show (fun i => nI (zpop 9 (zsetN (zgd (V2 (300 + i)) (V2 (400 + i)) (V2 (200 + i) 3)) 8))) = (fun i => nI (zpop 9 (zsetN (zgd (V (300 + i)) (V (400 + i)) (V (200 + i) 3)) 8))) from funext fun i => by rw [h.r (r := 200 + i) (by omega) (by omega), h.r (r := 300 + i) (by omega) (by omega), h.r (r := 400 + i) (by omega) (by omega)], show (fun i => nI (zpop 9 (zsetN (zst (V2 (300 + i)) (V2 (400 + i)) (V2 (200 + i) 3)) 8))) = (fun i => nI (zpop 9 (zsetN (zst (V (300 + i)) (V (400 + i)) (V (200 + i) 3)) 8))) from funext fun i => by rw [h.r (r := 200 + i) (by omega) (by omega), h.r (r := 300 + i) (by omega) (by omega), h.r (r := 400 + i) (by omega) (by omega)]]
theorem mKeA_k (h : zKp msc V V2) {k : Nat} : mKeA V2 ns k = mKeA V ns k := by
  unfold mKeA
  rw [h.r (r := 100 + k) (by omega) (by omega), show (fun i => decide (V2 (300 + i) k ≠ -1)) = (fun i => decide (V (300 + i) k ≠ -1)) from funext fun i => by rw [h.r (r := 300 + i) (by omega) (by omega)], show (fun i => zst (V2 (300 + i)) (V2 (400 + i)) (V2 (200 + i) 3) k) = (fun i => zst (V (300 + i)) (V (400 + i)) (V (200 + i) 3) k) from funext fun i => by rw [h.r (r := 200 + i) (by omega) (by omega), h.r (r := 300 + i) (by omega) (by omega), h.r (r := 400 + i) (by omega) (by omega)]]
theorem mSeA_k (h : zKp msc V V2) : mSeA V2 nk si t = mSeA V nk si t := by
  unfold mSeA
  rw [h.r (r := 200 + si) (by omega) (by omega), h.r (r := 300 + si) (by omega) (by omega), h.r (r := 400 + si) (by omega) (by omega), h.f1 1]
theorem qSm_k (h : zKp msc V V2) {k : Nat} {w : Int32} : qSm V2 si k w = qSm V si k w := by
  unfold qSm
  rw [h.r (r := 300 + si) (by omega) (by omega), h.r (r := 400 + si) (by omega) (by omega), h.mg]
theorem mFw_k (h : zKp msc V V2) : mFw V2 nk si = mFw V nk si := by
  have ec : fmc V2 nk si = fmc V nk si := funext fun s => by
    unfold fmc
    rw [h.r (r := 200 + si) (by omega) (by omega), h.r (r := 300 + si) (by omega) (by omega), h.r (r := 400 + si) (by omega) (by omega), h.f1 0]
  have el : fml V2 nk = fml V nk := funext fun s => funext fun b => by
    unfold fml
    rw [h.f1 1]
  unfold mFw
  rw [ec, el]
theorem mLo_k (h : zKp msc V V2) : mLo V2 nk si = mLo V nk si := by
  unfold mLo
  rw [h.r (r := 200 + si) (by omega) (by omega), h.r (r := 300 + si) (by omega) (by omega), h.r (r := 400 + si) (by omega) (by omega), h.f1 2]
theorem rSnd_k (h : zKp msc V V2) : rSnd V2 = rSnd V := funext fun i => by
  unfold rSnd ocW
  rw [h.r (r := 200 + i) (by omega) (by omega), h.r (r := 300 + i) (by omega) (by omega), h.r (r := 400 + i) (by omega) (by omega), h.r (r := 7) (by decide) (by decide)]
theorem rdOk.p (h : zKp msc V V2) (hr : rdOk V nk ns) : rdOk V2 nk ns := by
  refine ⟨fun si hsi k hk => ?_, fun k hk => ?_⟩
  · rw [h.r (r := 200 + si) (by omega) (by omega), h.r (r := 300 + si) (by omega) (by omega), h.r (r := 400 + si) (by omega) (by omega)]
    exact hr.1 si hsi k hk
  · rw [h.r (r := 100 + k) (by omega) (by omega)]
    exact hr.2 k hk
end RGK

