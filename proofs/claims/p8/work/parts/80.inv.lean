/-! the invariant: what each cell of the world may be; one store at a time keeps it -/
def kd (k : Nat) : Nat :=
  if k < 13 then [0, 1, 2, 3, 4, 5, 6, 7, 17, 18, 13, 14, 12].getD k 0
  else if k < 109 then (if k % 2 = 1 then 13 else 14)
  else if k < 179 then (if (k - 109) % 14 = 0 then 15 else if (k - 109) % 14 = 1 then 16 else if k % 2 = 1 then 17 else 18)
  else if k < 299 then 19 + (k - 179) % 3
  else if k < 305 then (if k % 2 = 1 then 13 else 14)
  else k
/-- slots of the store -/
def In48 (f : Nat → Int32) (n : Nat) : Prop := ∀ i, i < n → ∃ s : Nat, s < 48 ∧ f i = nI s
def InLe (f : Nat → Int32) (n m : Nat) : Prop := ∀ i, i < n → ∃ s : Nat, s ≤ m ∧ f i = nI s
def InM (f : Nat → Int32) (n : Nat) : Prop := ∀ i, i < n → f i = -1 ∨ ∃ s : Nat, s ≤ 3 ∧ f i = nI s
theorem In48.up {f : Nat → Int32} {n j s : Nat} {x : Int32} (h : In48 f n) (hs : s < 48) (hx : x = nI s) : In48 (upd f j x) n := by
  intro i hi
  by_cases hij : i = j
  · subst hij; exact ⟨s, hs, by rw [pk_us]; exact hx⟩
  · obtain ⟨s', h1, h2⟩ := h i hi
    exact ⟨s', h1, by rw [pk_un hij]; exact h2⟩
theorem InLe.up {f : Nat → Int32} {n m j s : Nat} {x : Int32} (h : InLe f n m) (hs : s ≤ m) (hx : x = nI s) : InLe (upd f j x) n m := by
  intro i hi
  by_cases hij : i = j
  · subst hij; exact ⟨s, hs, by rw [pk_us]; exact hx⟩
  · obtain ⟨s', h1, h2⟩ := h i hi
    exact ⟨s', h1, by rw [pk_un hij]; exact h2⟩
theorem InM.up {f : Nat → Int32} {n j : Nat} {x : Int32} (h : InM f n) (hx : x = -1 ∨ ∃ s : Nat, s ≤ 3 ∧ x = nI s) : InM (upd f j x) n := by
  intro i hi
  by_cases hij : i = j
  · subst hij; rw [pk_us]; exact hx
  · rw [pk_un hij]; exact h i hi
def Sh (dd : bD) (ad : Nat → Nat) (k : Nat) (e : va_E) : Prop :=
  if kd k = 0 then (∃ V : Nat, V ≤ 40 ∧ e = oB ad (nI V))
  else if kd k = 1 then (∃ x y z : Int32, e = .inr (1, [.int x, .int y, .int z]))
  else if kd k = 2 then (e = .inr (4, [.ref (ad 3)]))
  else if kd k = 3 then (∃ f : Nat → Int32, e = aI dd 64 f)
  else if kd k = 4 then (∃ f : Nat → Option Nat, e = aR dd 3 48 f ∧ ∀ j, j < 48 → f j = some (ad (13 + 2 * j)))
  else if kd k = 5 then (∃ f : Nat → Option Nat, e = aR dd 5 5 f ∧ ∀ j, j < 5 → f j = some (ad (109 + 14 * j)))
  else if kd k = 6 then (∃ f : Nat → Option Nat, e = aR dd 6 40 f ∧ ∀ j, j < 40 → f j = some (ad (179 + 3 * j)))
  else if kd k = 7 then (∃ f : Nat → Option Nat, e = aR dd 3 3 f ∧ ∀ j, j < 3 → f j = some (ad (299 + 2 * j)))
  else if kd k = 12 then (∃ f : Nat → Int32, e = aI dd 48 f)
  else if kd k = 13 then (∃ (n : Int32) (b : Int64), e = .inr (0, [.int n, .long b, .ref (ad (k + 1))]))
  else if kd k = 14 then (∃ f : Nat → Int32, e = aI dd 8 f)
  else if kd k = 15 then (∃ o b q : Int32, e = .inr (3, [.int o, .int b, .int q, .ref (ad (k + 1))]))
  else if kd k = 16 then (∃ f : Nat → Option Nat, e = aR dd 4 6 f ∧ ∀ j, j < 6 → f j = some (ad (k + 1 + 2 * j)))
  else if kd k = 17 then (∃ n : Nat, n ≤ 3 ∧ e = .inr (2, [.ref (ad (k + 1)), .int (nI n)]))
  else if kd k = 18 then (∃ f : Nat → Int32, e = aI dd 3 f ∧ In48 f 3)
  else if kd k = 19 then (∃ o b q : Int32, e = .inr (5, [.int o, .int b, .int q, .ref (ad (k + 1))]))
  else if kd k = 20 then (∃ n : Nat, n ≤ 18 ∧ e = .inr (2, [.ref (ad (k + 1)), .int (nI n)]))
  else if kd k = 21 then (∃ f : Nat → Int32, e = aI dd 18 f ∧ In48 f 18)
  else if kd k = 305 then (∃ (th : Int32) (V : Nat) (wr cu dn : Int32), V ≤ 40 ∧ (dn = 0 ∨ dn = 1) ∧ e = mO ad th (nI V) wr cu dn)
  else if kd k = 306 then (∃ f : Nat → Int32, e = aI dd 48 f ∧ InLe f 48 8)
  else if kd k = 307 then (∃ f : Nat → Int32, e = aI dd 384 f)
  else if kd k = 308 then (∃ f : Nat → Int32, e = aZ dd 5 f)
  else if kd k = 309 then (∃ f : Nat → Int32, e = aI dd 5 f)
  else if kd k = 310 then (∃ f : Nat → Int32, e = aI dd 5 f)
  else if kd k = 311 then (∃ f : Nat → Int32, e = aI dd 35 f ∧ InM f 35)
  else if kd k = 312 then (∃ f : Nat → Int32, e = aI dd 105 f ∧ In48 f 105)
  else if kd k = 313 then (∃ f : Nat → Int32, e = aZ dd 41 f)
  else if kd k = 314 then (∃ f : Nat → Int32, e = aI dd 41 f)
  else if kd k = 315 then (∃ f : Nat → Int32, e = aI dd 41 f)
  else if kd k = 316 then (∃ f : Nat → Int32, e = aI dd 41 f ∧ InLe f 41 21)
  else if kd k = 317 then (∃ f : Nat → Int32, e = aI dd 738 f ∧ In48 f 738)
  else if kd k = 318 then (∃ f : Nat → Int32, e = aI dd 72 f)
  else if kd k = 319 then (∃ f : Nat → Int32, e = aI dd 64 f)
  else if kd k = 320 then (∃ f : Nat → Int32, e = aI dd 8 f)
  else if kd k = 321 then (∃ f : Nat → Int32, e = aI dd 24 f)
  else if kd k = 322 then (∃ f : Nat → Int64, e = aL dd 8 f)
  else if kd k = 323 then (∃ f : Nat → Int64, e = aL dd 1 f)
  else True
theorem sh_0 {dd : bD} {ad : Nat → Nat} {k : Nat} {e : va_E} (h : kd k = 0) : Sh dd ad k e ↔ (∃ V : Nat, V ≤ 40 ∧ e = oB ad (nI V)) := by
  unfold Sh
  rw [h]
  exact Iff.rfl
theorem sh_1 {dd : bD} {ad : Nat → Nat} {k : Nat} {e : va_E} (h : kd k = 1) : Sh dd ad k e ↔ (∃ x y z : Int32, e = .inr (1, [.int x, .int y, .int z])) := by
  unfold Sh
  rw [h]
  exact Iff.rfl
theorem sh_2 {dd : bD} {ad : Nat → Nat} {k : Nat} {e : va_E} (h : kd k = 2) : Sh dd ad k e ↔ (e = .inr (4, [.ref (ad 3)])) := by
  unfold Sh
  rw [h]
  exact Iff.rfl
theorem sh_3 {dd : bD} {ad : Nat → Nat} {k : Nat} {e : va_E} (h : kd k = 3) : Sh dd ad k e ↔ (∃ f : Nat → Int32, e = aI dd 64 f) := by
  unfold Sh
  rw [h]
  exact Iff.rfl
theorem sh_4 {dd : bD} {ad : Nat → Nat} {k : Nat} {e : va_E} (h : kd k = 4) : Sh dd ad k e ↔ (∃ f : Nat → Option Nat, e = aR dd 3 48 f ∧ ∀ j, j < 48 → f j = some (ad (13 + 2 * j))) := by
  unfold Sh
  rw [h]
  exact Iff.rfl
theorem sh_5 {dd : bD} {ad : Nat → Nat} {k : Nat} {e : va_E} (h : kd k = 5) : Sh dd ad k e ↔ (∃ f : Nat → Option Nat, e = aR dd 5 5 f ∧ ∀ j, j < 5 → f j = some (ad (109 + 14 * j))) := by
  unfold Sh
  rw [h]
  exact Iff.rfl
theorem sh_6 {dd : bD} {ad : Nat → Nat} {k : Nat} {e : va_E} (h : kd k = 6) : Sh dd ad k e ↔ (∃ f : Nat → Option Nat, e = aR dd 6 40 f ∧ ∀ j, j < 40 → f j = some (ad (179 + 3 * j))) := by
  unfold Sh
  rw [h]
  exact Iff.rfl
theorem sh_7 {dd : bD} {ad : Nat → Nat} {k : Nat} {e : va_E} (h : kd k = 7) : Sh dd ad k e ↔ (∃ f : Nat → Option Nat, e = aR dd 3 3 f ∧ ∀ j, j < 3 → f j = some (ad (299 + 2 * j))) := by
  unfold Sh
  rw [h]
  exact Iff.rfl
theorem sh_12 {dd : bD} {ad : Nat → Nat} {k : Nat} {e : va_E} (h : kd k = 12) : Sh dd ad k e ↔ (∃ f : Nat → Int32, e = aI dd 48 f) := by
  unfold Sh
  rw [h]
  exact Iff.rfl
theorem sh_13 {dd : bD} {ad : Nat → Nat} {k : Nat} {e : va_E} (h : kd k = 13) : Sh dd ad k e ↔ (∃ (n : Int32) (b : Int64), e = .inr (0, [.int n, .long b, .ref (ad (k + 1))])) := by
  unfold Sh
  rw [h]
  exact Iff.rfl
theorem sh_14 {dd : bD} {ad : Nat → Nat} {k : Nat} {e : va_E} (h : kd k = 14) : Sh dd ad k e ↔ (∃ f : Nat → Int32, e = aI dd 8 f) := by
  unfold Sh
  rw [h]
  exact Iff.rfl
theorem sh_15 {dd : bD} {ad : Nat → Nat} {k : Nat} {e : va_E} (h : kd k = 15) : Sh dd ad k e ↔ (∃ o b q : Int32, e = .inr (3, [.int o, .int b, .int q, .ref (ad (k + 1))])) := by
  unfold Sh
  rw [h]
  exact Iff.rfl
theorem sh_16 {dd : bD} {ad : Nat → Nat} {k : Nat} {e : va_E} (h : kd k = 16) : Sh dd ad k e ↔ (∃ f : Nat → Option Nat, e = aR dd 4 6 f ∧ ∀ j, j < 6 → f j = some (ad (k + 1 + 2 * j))) := by
  unfold Sh
  rw [h]
  exact Iff.rfl
theorem sh_17 {dd : bD} {ad : Nat → Nat} {k : Nat} {e : va_E} (h : kd k = 17) : Sh dd ad k e ↔ (∃ n : Nat, n ≤ 3 ∧ e = .inr (2, [.ref (ad (k + 1)), .int (nI n)])) := by
  unfold Sh
  rw [h]
  exact Iff.rfl
theorem sh_18 {dd : bD} {ad : Nat → Nat} {k : Nat} {e : va_E} (h : kd k = 18) : Sh dd ad k e ↔ (∃ f : Nat → Int32, e = aI dd 3 f ∧ In48 f 3) := by
  unfold Sh
  rw [h]
  exact Iff.rfl
theorem sh_19 {dd : bD} {ad : Nat → Nat} {k : Nat} {e : va_E} (h : kd k = 19) : Sh dd ad k e ↔ (∃ o b q : Int32, e = .inr (5, [.int o, .int b, .int q, .ref (ad (k + 1))])) := by
  unfold Sh
  rw [h]
  exact Iff.rfl
theorem sh_20 {dd : bD} {ad : Nat → Nat} {k : Nat} {e : va_E} (h : kd k = 20) : Sh dd ad k e ↔ (∃ n : Nat, n ≤ 18 ∧ e = .inr (2, [.ref (ad (k + 1)), .int (nI n)])) := by
  unfold Sh
  rw [h]
  exact Iff.rfl
theorem sh_21 {dd : bD} {ad : Nat → Nat} {k : Nat} {e : va_E} (h : kd k = 21) : Sh dd ad k e ↔ (∃ f : Nat → Int32, e = aI dd 18 f ∧ In48 f 18) := by
  unfold Sh
  rw [h]
  exact Iff.rfl
theorem sh_305 {dd : bD} {ad : Nat → Nat} {k : Nat} {e : va_E} (h : kd k = 305) : Sh dd ad k e ↔ (∃ (th : Int32) (V : Nat) (wr cu dn : Int32), V ≤ 40 ∧ (dn = 0 ∨ dn = 1) ∧ e = mO ad th (nI V) wr cu dn) := by
  unfold Sh
  rw [h]
  exact Iff.rfl
theorem sh_306 {dd : bD} {ad : Nat → Nat} {k : Nat} {e : va_E} (h : kd k = 306) : Sh dd ad k e ↔ (∃ f : Nat → Int32, e = aI dd 48 f ∧ InLe f 48 8) := by
  unfold Sh
  rw [h]
  exact Iff.rfl
theorem sh_307 {dd : bD} {ad : Nat → Nat} {k : Nat} {e : va_E} (h : kd k = 307) : Sh dd ad k e ↔ (∃ f : Nat → Int32, e = aI dd 384 f) := by
  unfold Sh
  rw [h]
  exact Iff.rfl
theorem sh_308 {dd : bD} {ad : Nat → Nat} {k : Nat} {e : va_E} (h : kd k = 308) : Sh dd ad k e ↔ (∃ f : Nat → Int32, e = aZ dd 5 f) := by
  unfold Sh
  rw [h]
  exact Iff.rfl
theorem sh_309 {dd : bD} {ad : Nat → Nat} {k : Nat} {e : va_E} (h : kd k = 309) : Sh dd ad k e ↔ (∃ f : Nat → Int32, e = aI dd 5 f) := by
  unfold Sh
  rw [h]
  exact Iff.rfl
theorem sh_310 {dd : bD} {ad : Nat → Nat} {k : Nat} {e : va_E} (h : kd k = 310) : Sh dd ad k e ↔ (∃ f : Nat → Int32, e = aI dd 5 f) := by
  unfold Sh
  rw [h]
  exact Iff.rfl
theorem sh_311 {dd : bD} {ad : Nat → Nat} {k : Nat} {e : va_E} (h : kd k = 311) : Sh dd ad k e ↔ (∃ f : Nat → Int32, e = aI dd 35 f ∧ InM f 35) := by
  unfold Sh
  rw [h]
  exact Iff.rfl
theorem sh_312 {dd : bD} {ad : Nat → Nat} {k : Nat} {e : va_E} (h : kd k = 312) : Sh dd ad k e ↔ (∃ f : Nat → Int32, e = aI dd 105 f ∧ In48 f 105) := by
  unfold Sh
  rw [h]
  exact Iff.rfl
theorem sh_313 {dd : bD} {ad : Nat → Nat} {k : Nat} {e : va_E} (h : kd k = 313) : Sh dd ad k e ↔ (∃ f : Nat → Int32, e = aZ dd 41 f) := by
  unfold Sh
  rw [h]
  exact Iff.rfl
theorem sh_314 {dd : bD} {ad : Nat → Nat} {k : Nat} {e : va_E} (h : kd k = 314) : Sh dd ad k e ↔ (∃ f : Nat → Int32, e = aI dd 41 f) := by
  unfold Sh
  rw [h]
  exact Iff.rfl
theorem sh_315 {dd : bD} {ad : Nat → Nat} {k : Nat} {e : va_E} (h : kd k = 315) : Sh dd ad k e ↔ (∃ f : Nat → Int32, e = aI dd 41 f) := by
  unfold Sh
  rw [h]
  exact Iff.rfl
theorem sh_316 {dd : bD} {ad : Nat → Nat} {k : Nat} {e : va_E} (h : kd k = 316) : Sh dd ad k e ↔ (∃ f : Nat → Int32, e = aI dd 41 f ∧ InLe f 41 21) := by
  unfold Sh
  rw [h]
  exact Iff.rfl
theorem sh_317 {dd : bD} {ad : Nat → Nat} {k : Nat} {e : va_E} (h : kd k = 317) : Sh dd ad k e ↔ (∃ f : Nat → Int32, e = aI dd 738 f ∧ In48 f 738) := by
  unfold Sh
  rw [h]
  exact Iff.rfl
theorem sh_318 {dd : bD} {ad : Nat → Nat} {k : Nat} {e : va_E} (h : kd k = 318) : Sh dd ad k e ↔ (∃ f : Nat → Int32, e = aI dd 72 f) := by
  unfold Sh
  rw [h]
  exact Iff.rfl
theorem sh_319 {dd : bD} {ad : Nat → Nat} {k : Nat} {e : va_E} (h : kd k = 319) : Sh dd ad k e ↔ (∃ f : Nat → Int32, e = aI dd 64 f) := by
  unfold Sh
  rw [h]
  exact Iff.rfl
theorem sh_320 {dd : bD} {ad : Nat → Nat} {k : Nat} {e : va_E} (h : kd k = 320) : Sh dd ad k e ↔ (∃ f : Nat → Int32, e = aI dd 8 f) := by
  unfold Sh
  rw [h]
  exact Iff.rfl
theorem sh_321 {dd : bD} {ad : Nat → Nat} {k : Nat} {e : va_E} (h : kd k = 321) : Sh dd ad k e ↔ (∃ f : Nat → Int32, e = aI dd 24 f) := by
  unfold Sh
  rw [h]
  exact Iff.rfl
theorem sh_322 {dd : bD} {ad : Nat → Nat} {k : Nat} {e : va_E} (h : kd k = 322) : Sh dd ad k e ↔ (∃ f : Nat → Int64, e = aL dd 8 f) := by
  unfold Sh
  rw [h]
  exact Iff.rfl
theorem sh_323 {dd : bD} {ad : Nat → Nat} {k : Nat} {e : va_E} (h : kd k = 323) : Sh dd ad k e ↔ (∃ f : Nat → Int64, e = aL dd 1 f) := by
  unfold Sh
  rw [h]
  exact Iff.rfl
/-- the world's invariant -/
def II (dd : bD) (ad : Nat → Nat) (w : Nat → va_E) : Prop := ∀ k, k < 324 → Sh dd ad k (w k)
theorem II.up {dd : bD} {ad : Nat → Nat} {w : Nat → va_E} {k : Nat} {e : va_E} (h : II dd ad w) (hs : Sh dd ad k e) : II dd ad (va_up w k e) := by
  intro j hj
  by_cases h1 : j = k
  · subst h1; rw [va_up_self]; exact hs
  · rw [va_up_ne _ _ h1]; exact h j hj
theorem II.k0 {dd : bD} {ad : Nat → Nat} {w : Nat → va_E} (h : II dd ad w) {k : Nat} (hk : k < 324) (hd : kd k = 0) : ∃ V : Nat, V ≤ 40 ∧ w k = oB ad (nI V) := (sh_0 hd).mp (h k hk)
theorem II.k1 {dd : bD} {ad : Nat → Nat} {w : Nat → va_E} (h : II dd ad w) {k : Nat} (hk : k < 324) (hd : kd k = 1) : ∃ x y z : Int32, w k = .inr (1, [.int x, .int y, .int z]) := (sh_1 hd).mp (h k hk)
theorem II.k2 {dd : bD} {ad : Nat → Nat} {w : Nat → va_E} (h : II dd ad w) {k : Nat} (hk : k < 324) (hd : kd k = 2) : w k = .inr (4, [.ref (ad 3)]) := (sh_2 hd).mp (h k hk)
theorem II.k3 {dd : bD} {ad : Nat → Nat} {w : Nat → va_E} (h : II dd ad w) {k : Nat} (hk : k < 324) (hd : kd k = 3) : ∃ f : Nat → Int32, w k = aI dd 64 f := (sh_3 hd).mp (h k hk)
theorem II.k4 {dd : bD} {ad : Nat → Nat} {w : Nat → va_E} (h : II dd ad w) {k : Nat} (hk : k < 324) (hd : kd k = 4) : ∃ f : Nat → Option Nat, w k = aR dd 3 48 f ∧ ∀ j, j < 48 → f j = some (ad (13 + 2 * j)) := (sh_4 hd).mp (h k hk)
theorem II.k5 {dd : bD} {ad : Nat → Nat} {w : Nat → va_E} (h : II dd ad w) {k : Nat} (hk : k < 324) (hd : kd k = 5) : ∃ f : Nat → Option Nat, w k = aR dd 5 5 f ∧ ∀ j, j < 5 → f j = some (ad (109 + 14 * j)) := (sh_5 hd).mp (h k hk)
theorem II.k6 {dd : bD} {ad : Nat → Nat} {w : Nat → va_E} (h : II dd ad w) {k : Nat} (hk : k < 324) (hd : kd k = 6) : ∃ f : Nat → Option Nat, w k = aR dd 6 40 f ∧ ∀ j, j < 40 → f j = some (ad (179 + 3 * j)) := (sh_6 hd).mp (h k hk)
theorem II.k7 {dd : bD} {ad : Nat → Nat} {w : Nat → va_E} (h : II dd ad w) {k : Nat} (hk : k < 324) (hd : kd k = 7) : ∃ f : Nat → Option Nat, w k = aR dd 3 3 f ∧ ∀ j, j < 3 → f j = some (ad (299 + 2 * j)) := (sh_7 hd).mp (h k hk)
theorem II.k12 {dd : bD} {ad : Nat → Nat} {w : Nat → va_E} (h : II dd ad w) {k : Nat} (hk : k < 324) (hd : kd k = 12) : ∃ f : Nat → Int32, w k = aI dd 48 f := (sh_12 hd).mp (h k hk)
theorem II.k13 {dd : bD} {ad : Nat → Nat} {w : Nat → va_E} (h : II dd ad w) {k : Nat} (hk : k < 324) (hd : kd k = 13) : ∃ (n : Int32) (b : Int64), w k = .inr (0, [.int n, .long b, .ref (ad (k + 1))]) := (sh_13 hd).mp (h k hk)
theorem II.k14 {dd : bD} {ad : Nat → Nat} {w : Nat → va_E} (h : II dd ad w) {k : Nat} (hk : k < 324) (hd : kd k = 14) : ∃ f : Nat → Int32, w k = aI dd 8 f := (sh_14 hd).mp (h k hk)
theorem II.k15 {dd : bD} {ad : Nat → Nat} {w : Nat → va_E} (h : II dd ad w) {k : Nat} (hk : k < 324) (hd : kd k = 15) : ∃ o b q : Int32, w k = .inr (3, [.int o, .int b, .int q, .ref (ad (k + 1))]) := (sh_15 hd).mp (h k hk)
theorem II.k16 {dd : bD} {ad : Nat → Nat} {w : Nat → va_E} (h : II dd ad w) {k : Nat} (hk : k < 324) (hd : kd k = 16) : ∃ f : Nat → Option Nat, w k = aR dd 4 6 f ∧ ∀ j, j < 6 → f j = some (ad (k + 1 + 2 * j)) := (sh_16 hd).mp (h k hk)
theorem II.k17 {dd : bD} {ad : Nat → Nat} {w : Nat → va_E} (h : II dd ad w) {k : Nat} (hk : k < 324) (hd : kd k = 17) : ∃ n : Nat, n ≤ 3 ∧ w k = .inr (2, [.ref (ad (k + 1)), .int (nI n)]) := (sh_17 hd).mp (h k hk)
theorem II.k18 {dd : bD} {ad : Nat → Nat} {w : Nat → va_E} (h : II dd ad w) {k : Nat} (hk : k < 324) (hd : kd k = 18) : ∃ f : Nat → Int32, w k = aI dd 3 f ∧ In48 f 3 := (sh_18 hd).mp (h k hk)
theorem II.k19 {dd : bD} {ad : Nat → Nat} {w : Nat → va_E} (h : II dd ad w) {k : Nat} (hk : k < 324) (hd : kd k = 19) : ∃ o b q : Int32, w k = .inr (5, [.int o, .int b, .int q, .ref (ad (k + 1))]) := (sh_19 hd).mp (h k hk)
theorem II.k20 {dd : bD} {ad : Nat → Nat} {w : Nat → va_E} (h : II dd ad w) {k : Nat} (hk : k < 324) (hd : kd k = 20) : ∃ n : Nat, n ≤ 18 ∧ w k = .inr (2, [.ref (ad (k + 1)), .int (nI n)]) := (sh_20 hd).mp (h k hk)
theorem II.k21 {dd : bD} {ad : Nat → Nat} {w : Nat → va_E} (h : II dd ad w) {k : Nat} (hk : k < 324) (hd : kd k = 21) : ∃ f : Nat → Int32, w k = aI dd 18 f ∧ In48 f 18 := (sh_21 hd).mp (h k hk)
theorem II.k305 {dd : bD} {ad : Nat → Nat} {w : Nat → va_E} (h : II dd ad w) {k : Nat} (hk : k < 324) (hd : kd k = 305) : ∃ (th : Int32) (V : Nat) (wr cu dn : Int32), V ≤ 40 ∧ (dn = 0 ∨ dn = 1) ∧ w k = mO ad th (nI V) wr cu dn := (sh_305 hd).mp (h k hk)
theorem II.k306 {dd : bD} {ad : Nat → Nat} {w : Nat → va_E} (h : II dd ad w) {k : Nat} (hk : k < 324) (hd : kd k = 306) : ∃ f : Nat → Int32, w k = aI dd 48 f ∧ InLe f 48 8 := (sh_306 hd).mp (h k hk)
theorem II.k307 {dd : bD} {ad : Nat → Nat} {w : Nat → va_E} (h : II dd ad w) {k : Nat} (hk : k < 324) (hd : kd k = 307) : ∃ f : Nat → Int32, w k = aI dd 384 f := (sh_307 hd).mp (h k hk)
theorem II.k308 {dd : bD} {ad : Nat → Nat} {w : Nat → va_E} (h : II dd ad w) {k : Nat} (hk : k < 324) (hd : kd k = 308) : ∃ f : Nat → Int32, w k = aZ dd 5 f := (sh_308 hd).mp (h k hk)
theorem II.k309 {dd : bD} {ad : Nat → Nat} {w : Nat → va_E} (h : II dd ad w) {k : Nat} (hk : k < 324) (hd : kd k = 309) : ∃ f : Nat → Int32, w k = aI dd 5 f := (sh_309 hd).mp (h k hk)
theorem II.k310 {dd : bD} {ad : Nat → Nat} {w : Nat → va_E} (h : II dd ad w) {k : Nat} (hk : k < 324) (hd : kd k = 310) : ∃ f : Nat → Int32, w k = aI dd 5 f := (sh_310 hd).mp (h k hk)
theorem II.k311 {dd : bD} {ad : Nat → Nat} {w : Nat → va_E} (h : II dd ad w) {k : Nat} (hk : k < 324) (hd : kd k = 311) : ∃ f : Nat → Int32, w k = aI dd 35 f ∧ InM f 35 := (sh_311 hd).mp (h k hk)
theorem II.k312 {dd : bD} {ad : Nat → Nat} {w : Nat → va_E} (h : II dd ad w) {k : Nat} (hk : k < 324) (hd : kd k = 312) : ∃ f : Nat → Int32, w k = aI dd 105 f ∧ In48 f 105 := (sh_312 hd).mp (h k hk)
theorem II.k313 {dd : bD} {ad : Nat → Nat} {w : Nat → va_E} (h : II dd ad w) {k : Nat} (hk : k < 324) (hd : kd k = 313) : ∃ f : Nat → Int32, w k = aZ dd 41 f := (sh_313 hd).mp (h k hk)
theorem II.k314 {dd : bD} {ad : Nat → Nat} {w : Nat → va_E} (h : II dd ad w) {k : Nat} (hk : k < 324) (hd : kd k = 314) : ∃ f : Nat → Int32, w k = aI dd 41 f := (sh_314 hd).mp (h k hk)
theorem II.k315 {dd : bD} {ad : Nat → Nat} {w : Nat → va_E} (h : II dd ad w) {k : Nat} (hk : k < 324) (hd : kd k = 315) : ∃ f : Nat → Int32, w k = aI dd 41 f := (sh_315 hd).mp (h k hk)
theorem II.k316 {dd : bD} {ad : Nat → Nat} {w : Nat → va_E} (h : II dd ad w) {k : Nat} (hk : k < 324) (hd : kd k = 316) : ∃ f : Nat → Int32, w k = aI dd 41 f ∧ InLe f 41 21 := (sh_316 hd).mp (h k hk)
theorem II.k317 {dd : bD} {ad : Nat → Nat} {w : Nat → va_E} (h : II dd ad w) {k : Nat} (hk : k < 324) (hd : kd k = 317) : ∃ f : Nat → Int32, w k = aI dd 738 f ∧ In48 f 738 := (sh_317 hd).mp (h k hk)
theorem II.k318 {dd : bD} {ad : Nat → Nat} {w : Nat → va_E} (h : II dd ad w) {k : Nat} (hk : k < 324) (hd : kd k = 318) : ∃ f : Nat → Int32, w k = aI dd 72 f := (sh_318 hd).mp (h k hk)
theorem II.k319 {dd : bD} {ad : Nat → Nat} {w : Nat → va_E} (h : II dd ad w) {k : Nat} (hk : k < 324) (hd : kd k = 319) : ∃ f : Nat → Int32, w k = aI dd 64 f := (sh_319 hd).mp (h k hk)
theorem II.k320 {dd : bD} {ad : Nat → Nat} {w : Nat → va_E} (h : II dd ad w) {k : Nat} (hk : k < 324) (hd : kd k = 320) : ∃ f : Nat → Int32, w k = aI dd 8 f := (sh_320 hd).mp (h k hk)
theorem II.k321 {dd : bD} {ad : Nat → Nat} {w : Nat → va_E} (h : II dd ad w) {k : Nat} (hk : k < 324) (hd : kd k = 321) : ∃ f : Nat → Int32, w k = aI dd 24 f := (sh_321 hd).mp (h k hk)
theorem II.k322 {dd : bD} {ad : Nat → Nat} {w : Nat → va_E} (h : II dd ad w) {k : Nat} (hk : k < 324) (hd : kd k = 322) : ∃ f : Nat → Int64, w k = aL dd 8 f := (sh_322 hd).mp (h k hk)
theorem II.k323 {dd : bD} {ad : Nat → Nat} {w : Nat → va_E} (h : II dd ad w) {k : Nat} (hk : k < 324) (hd : kd k = 323) : ∃ f : Nat → Int64, w k = aL dd 1 f := (sh_323 hd).mp (h k hk)
theorem kd_c {i : Nat} (h : i < 48) : kd (13 + 2 * i) = 13 := by
  unfold kd; rw [if_neg (by omega), if_pos (by omega), if_pos (by omega)]
theorem kd_c1 {i : Nat} (h : i < 48) : kd (13 + 2 * i + 1) = 14 := by
  unfold kd; rw [if_neg (by omega), if_pos (by omega), if_neg (by omega)]
theorem kd_s {j : Nat} (h : j < 5) : kd (109 + 14 * j) = 15 := by
  unfold kd; rw [if_neg (by omega), if_neg (by omega), if_pos (by omega), if_pos (by omega)]
theorem kd_s1 {j : Nat} (h : j < 5) : kd (109 + 14 * j + 1) = 16 := by
  unfold kd; rw [if_neg (by omega), if_neg (by omega), if_pos (by omega), if_neg (by omega), if_pos (by omega)]
theorem kd_p {j i : Nat} (h : j < 5) (hi : i < 6) : kd (109 + 14 * j + 2 + 2 * i) = 17 := by
  unfold kd; rw [if_neg (by omega), if_neg (by omega), if_pos (by omega), if_neg (by omega), if_neg (by omega), if_pos (by omega)]
theorem kd_p1 {j i : Nat} (h : j < 5) (hi : i < 6) : kd (109 + 14 * j + 2 + 2 * i + 1) = 18 := by
  unfold kd; rw [if_neg (by omega), if_neg (by omega), if_pos (by omega), if_neg (by omega), if_neg (by omega), if_neg (by omega)]
theorem kd_v {j : Nat} (h : j < 40) : kd (179 + 3 * j) = 19 := by
  unfold kd; rw [if_neg (by omega), if_neg (by omega), if_neg (by omega), if_pos (by omega)]; omega
theorem kd_v1 {j : Nat} (h : j < 40) : kd (179 + 3 * j + 1) = 20 := by
  unfold kd; rw [if_neg (by omega), if_neg (by omega), if_neg (by omega), if_pos (by omega)]; omega
theorem kd_v2 {j : Nat} (h : j < 40) : kd (179 + 3 * j + 1 + 1) = 21 := by
  unfold kd; rw [if_neg (by omega), if_neg (by omega), if_neg (by omega), if_pos (by omega)]; omega
theorem kd_i {i : Nat} (h : i < 3) : kd (299 + 2 * i) = 13 := by
  unfold kd; rw [if_neg (by omega), if_neg (by omega), if_neg (by omega), if_neg (by omega), if_pos (by omega), if_pos (by omega)]
theorem kd_i1 {i : Nat} (h : i < 3) : kd (299 + 2 * i + 1) = 14 := by
  unfold kd; rw [if_neg (by omega), if_neg (by omega), if_neg (by omega), if_neg (by omega), if_pos (by omega), if_neg (by omega)]
/-- a chunk's key -/
def bKy (k : Nat) : Prop := k + 1 < 305 ∧ 10 ≤ k ∧ kd k = 13 ∧ kd (k + 1) = 14
theorem bKy.c {i : Nat} (h : i < 48) : bKy (13 + 2 * i) := ⟨by omega, by omega, kd_c h, kd_c1 h⟩
theorem bKy.i {i : Nat} (h : i < 3) : bKy (299 + 2 * i) := ⟨by omega, by omega, kd_i h, kd_i1 h⟩
theorem bKy.w : bKy 10 := ⟨by decide, by decide, by decide, by decide⟩
theorem bKy.at {dd : bD} {ad : Nat → Nat} {w : Nat → va_E} {k : Nat} (h : bKy k) (hI : II dd ad w) : ∃ (n : Int32) (b : Int64) (f : Nat → Int32), w k = .inr (0, [.int n, .long b, .ref (ad (k + 1))]) ∧ w (k + 1) = aI dd 8 f := by
  obtain ⟨n, b, h1⟩ := hI.k13 (by have := h.1; omega) h.2.2.1
  obtain ⟨f, h2⟩ := hI.k14 (by have := h.1; omega) h.2.2.2
  exact ⟨n, b, f, h1, h2⟩
/-- a row's key: of m places -/
def bRw (k m : Nat) : Prop := k + 1 < 305 ∧ ((m = 3 ∧ kd k = 17 ∧ kd (k + 1) = 18) ∨ (m = 18 ∧ kd k = 20 ∧ kd (k + 1) = 21))
theorem bRw.p {j i : Nat} (h : j < 5) (hi : i < 6) : bRw (109 + 14 * j + 2 + 2 * i) 3 := ⟨by omega, Or.inl ⟨rfl, kd_p h hi, kd_p1 h hi⟩⟩
theorem bRw.v {j : Nat} (h : j < 40) : bRw (179 + 3 * j + 1) 18 := ⟨by omega, Or.inr ⟨rfl, kd_v1 h, kd_v2 h⟩⟩
theorem bRw.n : bRw 8 3 := ⟨by decide, Or.inl ⟨rfl, by decide, by decide⟩⟩
theorem bRw.le {k m : Nat} (h : bRw k m) : m ≤ 18 := by
  rcases h.2 with ⟨rfl, -⟩ | ⟨rfl, -⟩ <;> decide
theorem bRw.at {dd : bD} {ad : Nat → Nat} {w : Nat → va_E} {k m : Nat} (h : bRw k m) (hI : II dd ad w) : ∃ (n : Nat) (f : Nat → Int32), n ≤ m ∧ w k = .inr (2, [.ref (ad (k + 1)), .int (nI n)]) ∧ w (k + 1) = aI dd m f ∧ In48 f m := by
  have h0 := h.1
  rcases h.2 with ⟨rfl, a, b⟩ | ⟨rfl, a, b⟩
  · obtain ⟨n, h1, h2⟩ := hI.k17 (by omega) a
    obtain ⟨f, h3, h4⟩ := hI.k18 (by omega) b
    exact ⟨n, f, h1, h2, h3, h4⟩
  · obtain ⟨n, h1, h2⟩ := hI.k20 (by omega) a
    obtain ⟨f, h3, h4⟩ := hI.k21 (by omega) b
    exact ⟨n, f, h1, h2, h3, h4⟩
theorem bRw.s1 {dd : bD} {ad : Nat → Nat} {k m n : Nat} (h : bRw k m) (hn : n ≤ m) : Sh dd ad k (.inr (2, [.ref (ad (k + 1)), .int (nI n)])) := by
  rcases h.2 with ⟨rfl, a, b⟩ | ⟨rfl, a, b⟩
  · exact (sh_17 a).mpr ⟨n, hn, rfl⟩
  · exact (sh_20 a).mpr ⟨n, hn, rfl⟩
theorem bRw.s2 {dd : bD} {ad : Nat → Nat} {k m : Nat} {f : Nat → Int32} (h : bRw k m) (hf : In48 f m) : Sh dd ad (k + 1) (aI dd m f) := by
  rcases h.2 with ⟨rfl, a, b⟩ | ⟨rfl, a, b⟩
  · exact (sh_18 b).mpr ⟨f, rfl, hf⟩
  · exact (sh_21 b).mpr ⟨f, rfl, hf⟩
/-- behind a method: the invariant, and what it answers -/
abbrev bJ (dd : bD) (ad : Nat → Nat) (P : Option Value → Prop) : Option Value → (Nat → Nat) → (Nat → va_E) → Nat → Prop := fun v ad' w' N' => ad = ad' ∧ 324 = N' ∧ II dd ad w' ∧ P v
abbrev bJT (dd : bD) (ad : Nat → Nat) (P : String → Prop) : String → (Nat → Nat) → (Nat → va_E) → Nat → Prop := fun Cn ad' w' N' => ad = ad' ∧ 324 = N' ∧ II dd ad w' ∧ P Cn
/-- any int -/
abbrev vI (v : Option Value) : Prop := ∃ r : Int32, v = some (.int r)
theorem II.ss {dd : bD} {ad : Nat → Nat} {w : Nat → va_E} (h : II dd ad w) : ∃ so sb sk : Nat → Int32, bSs dd ad w so sb sk := by
  have h0 : ∀ j : Nat, ∃ x : Int32 × Int32 × Int32, j < 5 → w (109 + 14 * j) = .inr (3, [.int x.1, .int x.2.1, .int x.2.2, .ref (ad (109 + 14 * j + 1))]) := by
    intro j
    by_cases hj : j < 5
    · obtain ⟨o, b, q, h1⟩ := h.k15 (k := 109 + 14 * j) (by omega) (kd_s hj)
      exact ⟨(o, b, q), fun _ => h1⟩
    · exact ⟨(0, 0, 0), fun h => absurd h hj⟩
  obtain ⟨x, hx⟩ := Classical.axiomOfChoice h0
  exact ⟨fun j => (x j).1, fun j => (x j).2.1, fun j => (x j).2.2, h.k5 (k := 5) (by decide) (by decide), hx⟩
theorem II.cs {dd : bD} {ad : Nat → Nat} {w : Nat → va_E} (h : II dd ad w) : ∃ (cl : Nat → Int32) (cb : Nat → Int64), bCs dd ad w cl cb := by
  have h0 : ∀ j : Nat, ∃ x : Int32 × Int64, j < 48 → w (13 + 2 * j) = .inr (0, [.int x.1, .long x.2, .ref (ad (13 + 2 * j + 1))]) := by
    intro j
    by_cases hj : j < 48
    · obtain ⟨n, b, h1⟩ := h.k13 (k := 13 + 2 * j) (by omega) (kd_c hj)
      exact ⟨(n, b), fun _ => h1⟩
    · exact ⟨(0, 0), fun h => absurd h hj⟩
  obtain ⟨x, hx⟩ := Classical.axiomOfChoice h0
  exact ⟨fun j => (x j).1, fun j => (x j).2, h.k4 (k := 4) (by decide) (by decide), hx⟩
theorem II.ps {dd : bD} {ad : Nat → Nat} {w : Nat → va_E} (h : II dd ad w) {i : Nat} (hi : i < 5) : ∃ pl : Nat → Int32, bPs dd ad w (109 + 14 * i) pl := by
  have h0 : ∀ j : Nat, ∃ x : Int32, j < 6 → w (109 + 14 * i + 2 + 2 * j) = .inr (2, [.ref (ad (109 + 14 * i + 3 + 2 * j)), .int x]) := by
    intro j
    by_cases hj : j < 6
    · obtain ⟨n, -, h1⟩ := h.k17 (k := 109 + 14 * i + 2 + 2 * j) (by omega) (kd_p hi hj)
      exact ⟨nI n, fun _ => by rw [h1, show 109 + 14 * i + 2 + 2 * j + 1 = 109 + 14 * i + 3 + 2 * j by omega]⟩
    · exact ⟨0, fun h => absurd h hj⟩
  obtain ⟨x, hx⟩ := Classical.axiomOfChoice h0
  obtain ⟨f, h1, h2⟩ := h.k16 (k := 109 + 14 * i + 1) (by omega) (kd_s1 hi)
  exact ⟨x, ⟨f, h1, fun j hj => h2 j hj⟩, hx⟩
