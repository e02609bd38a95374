/-! ===== the class's cells: a book of 83 numbers ===== -/
def ctT : List (Nat ⊕ (Nat × Nat)) := [.inl 9, .inl 7, .inr (2, 180), .inl 8, .inr (0, 6), .inr (0, 6), .inr (0, 6), .inr (0, 10), .inr (0, 10), .inr (0, 10), .inr (0, 10), .inl 8, .inr (0, 6), .inr (0, 6), .inr (0, 6), .inr (0, 10), .inr (0, 10), .inr (0, 10), .inr (0, 10), .inl 4, .inr (0, 6), .inl 1, .inr (4, 10), .inl 4, .inr (0, 6), .inl 4, .inr (0, 6), .inl 4, .inr (0, 6), .inl 4, .inr (0, 6), .inl 4, .inr (0, 6), .inl 4, .inr (0, 6), .inl 4, .inr (0, 6), .inl 4, .inr (0, 6), .inl 4, .inr (0, 6), .inl 4, .inr (0, 6), .inr (4, 2), .inl 4, .inr (0, 6), .inl 4, .inr (0, 6), .inl 3, .inl 4, .inr (0, 6), .inl 5, .inl 4, .inr (0, 6), .inr (0, 32), .inr (5, 6), .inr (0, 32), .inr (0, 32), .inr (0, 32), .inr (0, 32), .inr (0, 32), .inr (0, 32), .inr (5, 6), .inr (0, 32), .inr (0, 32), .inr (0, 32), .inr (0, 32), .inr (0, 32), .inr (0, 32), .inr (0, 6), .inr (0, 7), .inr (0, 6), .inr (1, 1021), .inr (0, 6), .inl 6, .inr (0, 6), .inr (0, 6), .inr (0, 6), .inl 0, .inr (0, 6), .inr (0, 6), .inr (0, 6), .inl 2]
def ctR : List (Nat × Nat × Nat) := [(0, 0, 1), (0, 1, 3), (0, 2, 19), (0, 3, 21), (0, 4, 43), (0, 6, 48), (0, 7, 51), (0, 8, 74), (0, 9, 78), (0, 10, 82), (1, 0, 2), (1, 2, 11), (3, 1, 4), (3, 2, 5), (3, 3, 6), (3, 5, 7), (3, 6, 8), (3, 7, 9), (3, 8, 10), (11, 1, 12), (11, 2, 13), (11, 3, 14), (11, 5, 15), (11, 6, 16), (11, 7, 17), (11, 8, 18), (19, 5, 20), (21, 0, 22), (23, 5, 24), (22, 0, 23), (25, 5, 26), (22, 1, 25), (27, 5, 28), (22, 2, 27), (29, 5, 30), (22, 3, 29), (31, 5, 32), (22, 4, 31), (33, 5, 34), (22, 5, 33), (35, 5, 36), (22, 6, 35), (37, 5, 38), (22, 7, 37), (39, 5, 40), (22, 8, 39), (41, 5, 42), (22, 9, 41), (44, 5, 45), (43, 0, 44), (46, 5, 47), (43, 1, 46), (49, 5, 50), (48, 0, 49), (52, 5, 53), (51, 0, 52), (51, 1, 54), (51, 2, 55), (55, 0, 56), (55, 1, 57), (55, 2, 58), (55, 3, 59), (55, 4, 60), (55, 5, 61), (51, 3, 62), (62, 0, 63), (62, 1, 64), (62, 2, 65), (62, 3, 66), (62, 4, 67), (62, 5, 68), (51, 4, 69), (51, 5, 70), (51, 6, 71), (51, 7, 72), (51, 11, 73), (74, 0, 75), (74, 1, 76), (74, 4, 77), (78, 0, 79), (78, 1, 80), (78, 2, 81)]
def CB (G : aG) (ad : Nat → Nat) : Prop := (∀ i, i < 83 → ad i ∈ gA G ∧ gT G (ad i) = ctT.getD i (.inl 0)) ∧ (∀ e ∈ ctR, gR G (ad e.1) e.2.1 = some (ad e.2.2)) ∧ ∀ i j, i < 83 → j < 83 → ad i = ad j → i = j
theorem cb_ne {G : aG} {ad : Nat → Nat} (h : CB G ad) {i j : Nat} (hi : i < 83) (hj : j < 83) (hn : i ≠ j) : ad i ≠ ad j := fun e => hn (h.2.2 i j hi hj e)
theorem cb_o {G : aG} {ad : Nat → Nat} (h : CB G ad) {i c : Nat} (hi : i < 83) (hc : ctT.getD i (.inl 0) = .inl c) : isObj G (ad i) c := ⟨(h.1 i hi).1, (h.1 i hi).2.trans hc⟩
theorem cb_a {G : aG} {ad : Nat → Nat} (h : CB G ad) {i k n : Nat} (hi : i < 83) (hc : ctT.getD i (.inl 0) = .inr (k, n)) : isArr G (ad i) k n := ⟨(h.1 i hi).1, (h.1 i hi).2.trans hc⟩
theorem cb_r {G : aG} {ad : Nat → Nat} (h : CB G ad) {i k j : Nat} (he : (i, k, j) ∈ ctR) : gR G (ad i) k = some (ad j) := h.2.1 (i, k, j) he
theorem cb_f {G : aG} {ad : Nat → Nat} (h : CB G ad) {i k j : Nat} (he : (i, k, j) ∈ ctR) : rfA G (ad i) k = ad j := by
  unfold rfA
  rw [cb_r h he]
  rfl
theorem cb_rr {G : aG} {ad : Nat → Nat} (h : CB G ad) {i k j : Nat} (he : (i, k, j) ∈ ctR) : gR G (ad i) k = some (rfA G (ad i) k) := by rw [cb_f h he]; exact cb_r h he
theorem cb_T3 {G : aG} {ad : Nat → Nat} (h : CB G ad) : TS G (ad 3) := ⟨cb_o h (by decide) rfl, ⟨cb_rr h (i := 3) (k := 1) (j := 4) (by decide), by rw [cb_f h (i := 3) (k := 1) (j := 4) (by decide)]; exact cb_a h (by decide) rfl⟩, ⟨cb_rr h (i := 3) (k := 2) (j := 5) (by decide), by rw [cb_f h (i := 3) (k := 2) (j := 5) (by decide)]; exact cb_a h (by decide) rfl⟩, ⟨cb_rr h (i := 3) (k := 3) (j := 6) (by decide), by rw [cb_f h (i := 3) (k := 3) (j := 6) (by decide)]; exact cb_a h (by decide) rfl⟩, ⟨cb_rr h (i := 3) (k := 5) (j := 7) (by decide), by rw [cb_f h (i := 3) (k := 5) (j := 7) (by decide)]; exact cb_a h (by decide) rfl⟩, ⟨cb_rr h (i := 3) (k := 6) (j := 8) (by decide), by rw [cb_f h (i := 3) (k := 6) (j := 8) (by decide)]; exact cb_a h (by decide) rfl⟩, ⟨cb_rr h (i := 3) (k := 7) (j := 9) (by decide), by rw [cb_f h (i := 3) (k := 7) (j := 9) (by decide)]; exact cb_a h (by decide) rfl⟩, ⟨cb_rr h (i := 3) (k := 8) (j := 10) (by decide), by rw [cb_f h (i := 3) (k := 8) (j := 10) (by decide)]; exact cb_a h (by decide) rfl⟩⟩
theorem cb_T11 {G : aG} {ad : Nat → Nat} (h : CB G ad) : TS G (ad 11) := ⟨cb_o h (by decide) rfl, ⟨cb_rr h (i := 11) (k := 1) (j := 12) (by decide), by rw [cb_f h (i := 11) (k := 1) (j := 12) (by decide)]; exact cb_a h (by decide) rfl⟩, ⟨cb_rr h (i := 11) (k := 2) (j := 13) (by decide), by rw [cb_f h (i := 11) (k := 2) (j := 13) (by decide)]; exact cb_a h (by decide) rfl⟩, ⟨cb_rr h (i := 11) (k := 3) (j := 14) (by decide), by rw [cb_f h (i := 11) (k := 3) (j := 14) (by decide)]; exact cb_a h (by decide) rfl⟩, ⟨cb_rr h (i := 11) (k := 5) (j := 15) (by decide), by rw [cb_f h (i := 11) (k := 5) (j := 15) (by decide)]; exact cb_a h (by decide) rfl⟩, ⟨cb_rr h (i := 11) (k := 6) (j := 16) (by decide), by rw [cb_f h (i := 11) (k := 6) (j := 16) (by decide)]; exact cb_a h (by decide) rfl⟩, ⟨cb_rr h (i := 11) (k := 7) (j := 17) (by decide), by rw [cb_f h (i := 11) (k := 7) (j := 17) (by decide)]; exact cb_a h (by decide) rfl⟩, ⟨cb_rr h (i := 11) (k := 8) (j := 18) (by decide), by rw [cb_f h (i := 11) (k := 8) (j := 18) (by decide)]; exact cb_a h (by decide) rfl⟩⟩
theorem cb_N {G : aG} {ad : Nat → Nat} (h : CB G ad) {i : Nat} (hi : i < 83) (ho : ctT.getD i (.inl 0) = .inl 4) (he : (i, 5, i + 1) ∈ ctR) (hi2 : i + 1 < 83) (ha : ctT.getD (i + 1) (.inl 0) = .inr (0, 6)) : NS G (ad i) := ⟨cb_o h hi ho, cb_rr h he, by rw [cb_f h he]; exact cb_a h hi2 ha⟩
theorem cb_N19 {G : aG} {ad : Nat → Nat} (h : CB G ad) : NS G (ad 19) := cb_N h (by decide) rfl (by decide) (by decide) rfl
theorem cb_N49 {G : aG} {ad : Nat → Nat} (h : CB G ad) : NS G (ad 49) := cb_N h (by decide) rfl (by decide) (by decide) rfl
theorem cb_N52 {G : aG} {ad : Nat → Nat} (h : CB G ad) : NS G (ad 52) := cb_N h (by decide) rfl (by decide) (by decide) rfl
theorem ring_t : ∀ j, j < 10 → ctT.getD (23 + 2 * j) (.inl 0) = .inl 4 ∧ (23 + 2 * j, 5, 23 + 2 * j + 1) ∈ ctR ∧ ctT.getD (23 + 2 * j + 1) (.inl 0) = .inr (0, 6) ∧ (22, j, 23 + 2 * j) ∈ ctR := by decide
theorem ima_t : ∀ j, j < 2 → ctT.getD (44 + 2 * j) (.inl 0) = .inl 4 ∧ (44 + 2 * j, 5, 44 + 2 * j + 1) ∈ ctR ∧ ctT.getD (44 + 2 * j + 1) (.inl 0) = .inr (0, 6) ∧ (43, j, 44 + 2 * j) ∈ ctR := by decide
theorem cb_NR {G : aG} {ad : Nat → Nat} (h : CB G ad) {j : Nat} (hj : j < 10) : NS G (ad (23 + 2 * j)) := cb_N h (by omega) (ring_t j hj).1 (ring_t j hj).2.1 (by omega) (ring_t j hj).2.2.1
theorem cb_NI {G : aG} {ad : Nat → Nat} (h : CB G ad) {j : Nat} (hj : j < 2) : NS G (ad (44 + 2 * j)) := cb_N h (by omega) (ima_t j hj).1 (ima_t j hj).2.1 (by omega) (ima_t j hj).2.2.1
theorem cb_H {G : aG} {ad : Nat → Nat} (h : CB G ad) : HS G (ad 21) := by
  have e : rfA G (ad 21) 0 = ad 22 := cb_f h (by decide)
  refine ⟨cb_o h (by decide) rfl, ⟨cb_rr h (j := 22) (by decide), by rw [e]; exact cb_a h (by decide) rfl⟩, fun j hj => ?_⟩
  rw [e, cb_f h (ring_t j hj).2.2.2]
  exact ⟨cb_r h (ring_t j hj).2.2.2, cb_NR h hj⟩
theorem cb_L {G : aG} {ad : Nat → Nat} (h : CB G ad) : LwS G (ad 48) := ⟨cb_o h (by decide) rfl, cb_rr h (j := 49) (by decide), by rw [cb_f h (i := 48) (k := 0) (j := 49) (by decide)]; exact cb_N49 h⟩
theorem cb_G {G : aG} {ad : Nat → Nat} (h : CB G ad) : GS G (ad 78) := by
  refine ⟨cb_o h (by decide) rfl, ⟨cb_rr h (i := 78) (k := 0) (j := 79) (by decide), by rw [cb_f h (i := 78) (k := 0) (j := 79) (by decide)]; exact cb_a h (by decide) rfl⟩, ⟨cb_rr h (i := 78) (k := 1) (j := 80) (by decide), by rw [cb_f h (i := 78) (k := 1) (j := 80) (by decide)]; exact cb_a h (by decide) rfl⟩, ⟨cb_rr h (i := 78) (k := 2) (j := 81) (by decide), by rw [cb_f h (i := 78) (k := 2) (j := 81) (by decide)]; exact cb_a h (by decide) rfl⟩, by rw [cb_f h (i := 78) (k := 0) (j := 79) (by decide), cb_f h (i := 78) (k := 1) (j := 80) (by decide)]; exact cb_ne h (by decide) (by decide) (by decide), by rw [cb_f h (i := 78) (k := 0) (j := 79) (by decide), cb_f h (i := 78) (k := 2) (j := 81) (by decide)]; exact cb_ne h (by decide) (by decide) (by decide), by rw [cb_f h (i := 78) (k := 1) (j := 80) (by decide), cb_f h (i := 78) (k := 2) (j := 81) (by decide)]; exact cb_ne h (by decide) (by decide) (by decide)⟩
theorem cb_TN {G : aG} {ad : Nat → Nat} (h : CB G ad) {i : Nat} (hi : i < 83) (he : (i, 5, i + 1) ∈ ctR) (hi2 : i + 1 < 83) (h1 : i + 1 ≠ 4) (h2 : i + 1 ≠ 5) (h3 : i + 1 ≠ 6) : TN G (ad 3) (ad i) := by
  refine ⟨?_, ?_, ?_⟩ <;> rw [cb_f h he]
  · rw [cb_f h (i := 3) (k := 1) (j := 4) (by decide)]
    exact cb_ne h (by decide) hi2 (Ne.symm h1)
  · rw [cb_f h (i := 3) (k := 2) (j := 5) (by decide)]
    exact cb_ne h (by decide) hi2 (Ne.symm h2)
  · rw [cb_f h (i := 3) (k := 3) (j := 6) (by decide)]
    exact cb_ne h (by decide) hi2 (Ne.symm h3)
/-! the state that both hold -/
abbrev SG : Type := TD × ND × (Nat × (Nat → ND)) × (Nat × (Nat → ND)) × (Nat × (Nat → Nat)) × (Nat × (Nat → Nat)) × (Nat × (Nat → Nat) × (Nat → Nat)) × Int
def gTd (σ : SG) : TD := σ.1
def gNd (σ : SG) : ND := σ.2.1
def gKn (σ : SG) : Nat := σ.2.2.1.1
def gHs (σ : SG) : Nat → ND := σ.2.2.1.2
def gKp (σ : SG) : Nat := σ.2.2.2.1.1
def gIm (σ : SG) : Nat → ND := σ.2.2.2.1.2
def gLe (σ : SG) : Nat := σ.2.2.2.2.1.1
def gTx (σ : SG) : Nat → Nat := σ.2.2.2.2.1.2
def gSz (σ : SG) : Nat := σ.2.2.2.2.2.1.1
def gSn (σ : SG) : Nat → Nat := σ.2.2.2.2.2.1.2
def gFz (σ : SG) : Nat := σ.2.2.2.2.2.2.1.1
def gAm (σ : SG) : Nat → Nat := σ.2.2.2.2.2.2.1.2.1
def gGz (σ : SG) : Nat → Nat := σ.2.2.2.2.2.2.1.2.2
def gTr (σ : SG) : Int := σ.2.2.2.2.2.2.2
def NDok (t : TD) (n : ND) : Prop := ndM n ≤ 12 ∧ ndG n < 2 ^ tdN t ∧ ndL n < 2 ^ tdN t ∧ ndE n < 1024 ∧ ndH n ≤ 90 * ndM n ∧ pop (ndG n) ≤ tdRo t ∧ ∀ p, p < tdN t → ndT n p ≤ tdS t p
def SOK (σ : SG) : Prop := TDok (gTd σ) ∧ NDok (gTd σ) (gNd σ) ∧ (gKn σ ≤ 10 ∧ ∀ k, k < gKn σ → NDok (gTd σ) (gHs σ k)) ∧ (gKp σ < 4 ∧ ∀ i, i < 2 → bt (gKp σ) i = 1 → NDok (gTd σ) (gIm σ i)) ∧ (gLe σ ≤ 180 ∧ ∀ i, i < gLe σ → gTx σ i ≤ 255) ∧ (gSz σ ≤ 6 ∧ ∀ i, i < gSz σ → gSn σ i < 32) ∧ (gFz σ ≤ 6 ∧ ∀ i, i < gFz σ → gAm σ i < 64 ∧ gGz σ i ≤ 4)
/-! the class's view: V i = the cell that stands at i in the book -/
def cTo (V : aM) (td : TD) : Prop := V 3 0 = (tdN td : Int) ∧ V 3 4 = (tdA td : Int) ∧ V 3 9 = (tdRo td : Int) ∧ V 3 10 = (tdRe td : Int) ∧ V 3 11 = (tdW td : Int) ∧ (∀ p, p < tdN td → V 4 p = (tdS td p : Int) ∧ V 5 p = (tdF td p : Int) ∧ V 6 p = (tdK td p : Int)) ∧ (∀ a, a < tdA td → V 7 a = (tdM td a : Int) ∧ V 8 a = (tdP td a : Int) ∧ V 9 a = (tdT td a : Int) ∧ V 10 a = (tdH td a : Int))
def cvN (V : aM) (i n : Nat) (nd : ND) : Prop := V i 0 = (ndM nd : Int) ∧ V i 1 = (ndG nd : Int) ∧ V i 2 = (ndL nd : Int) ∧ V i 3 = (ndE nd : Int) ∧ V i 4 = (ndH nd : Int) ∧ ∀ p, p < n → V (i + 1) p = (ndT nd p : Int)
def cHi (V : aM) (n kn : Nat) (hs : Nat → ND) : Prop := ∃ nx : Nat, nx < 10 ∧ V 21 1 = (nx : Int) ∧ V 21 2 = (kn : Int) ∧ ∀ k, k < kn → cvN V (23 + 2 * ((nx + 10 - kn + k) % 10)) n (hs k)
def cIm (V : aM) (n kp : Nat) (im : Nat → ND) : Prop := V 0 5 = (kp : Int) ∧ ∀ i, i < 2 → bt kp i = 1 → cvN V (44 + 2 * i) n (im i)
def cTx (V : aM) (len : Nat) (tx : Nat → Nat) : Prop := V 1 1 = (len : Int) ∧ ∀ i, i < len → V 2 i = (tx i : Int)
def cSt (V : aM) (sz : Nat) (sn : Nat → Nat) : Prop := V 74 2 = (sz : Int) ∧ ∀ i, i < sz → V 75 i = (sn i : Int)
def cGr (V : aM) (fz : Nat) (am gz : Nat → Nat) : Prop := V 78 3 = (fz : Int) ∧ ∀ i, i < fz → V 79 i = (am i : Int) ∧ V 80 i = (gz i : Int)
def cPl (bd : Nat) (V : aM) : Prop := ∃ mk : Nat, mk ≤ bd ∧ V 51 8 = (mk : Int) ∧ ∀ i, i < 1021 → 0 ≤ V 72 i ∧ V 72 i < 1073741824 * ((mk : Int) + 1)
def CV (bd : Nat) (V : aM) (σ : SG) : Prop := cTo V (gTd σ) ∧ cvN V 19 (tdN (gTd σ)) (gNd σ) ∧ cHi V (tdN (gTd σ)) (gKn σ) (gHs σ) ∧ cIm V (tdN (gTd σ)) (gKp σ) (gIm σ) ∧ cTx V (gLe σ) (gTx σ) ∧ cSt V (gSz σ) (gSn σ) ∧ cGr V (gFz σ) (gAm σ) (gGz σ) ∧ V 82 0 = gTr σ ∧ cPl bd V
def vw (M : aM) (ad : Nat → Nat) : aM := fun i => M (ad i)
theorem cTo_k {V V' : aM} {td : TD} (h : ∀ i, 3 ≤ i → i ≤ 10 → V' i = V i) (hc : cTo V td) : cTo V' td := by
  unfold cTo
  rw [h 3 (by decide) (by decide), h 4 (by decide) (by decide), h 5 (by decide) (by decide), h 6 (by decide) (by decide), h 7 (by decide) (by decide), h 8 (by decide) (by decide), h 9 (by decide) (by decide), h 10 (by decide) (by decide)]
  exact hc
theorem cvN_k {V V' : aM} {i n : Nat} {nd : ND} (h1 : V' i = V i) (h2 : V' (i + 1) = V (i + 1)) (hc : cvN V i n nd) : cvN V' i n nd := by
  unfold cvN
  rw [h1, h2]
  exact hc
theorem cHi_k {V V' : aM} {n kn : Nat} {hs : Nat → ND} (h : ∀ i, 21 ≤ i → i ≤ 42 → V' i = V i) (hc : cHi V n kn hs) : cHi V' n kn hs := by
  obtain ⟨nx, a, b, c, d⟩ := hc
  refine ⟨nx, a, by rw [h 21 (by decide) (by decide)]; exact b, by rw [h 21 (by decide) (by decide)]; exact c, fun k hk => cvN_k (h _ ?_ ?_) (h _ ?_ ?_) (d k hk)⟩ <;> omega
theorem cIm_k {V V' : aM} {n kp : Nat} {im : Nat → ND} (h0 : V' 0 = V 0) (h : ∀ i, 44 ≤ i → i ≤ 47 → V' i = V i) (hc : cIm V n kp im) : cIm V' n kp im := by
  refine ⟨by rw [h0]; exact hc.1, fun i hi hb => cvN_k (h _ ?_ ?_) (h _ ?_ ?_) (hc.2 i hi hb)⟩ <;> omega
theorem cTx_k {V V' : aM} {len : Nat} {tx : Nat → Nat} (h1 : V' 1 1 = V 1 1) (h2 : V' 2 = V 2) (hc : cTx V len tx) : cTx V' len tx := by
  unfold cTx
  rw [h1, h2]
  exact hc
theorem cSt_k {V V' : aM} {len : Nat} {tx : Nat → Nat} (h1 : V' 74 2 = V 74 2) (h2 : V' 75 = V 75) (hc : cSt V len tx) : cSt V' len tx := by
  unfold cSt
  rw [h1, h2]
  exact hc
theorem cGr_k {V V' : aM} {len : Nat} {am gz : Nat → Nat} (h1 : V' 78 3 = V 78 3) (h2 : V' 79 = V 79) (h3 : V' 80 = V 80) (hc : cGr V len am gz) : cGr V' len am gz := by
  unfold cGr
  rw [h1, h2, h3]
  exact hc
theorem cPl_k {bd : Nat} {V V' : aM} (h1 : V' 51 8 = V 51 8) (h2 : V' 72 = V 72) (hc : cPl bd V) : cPl bd V' := by
  unfold cPl
  rw [h1, h2]
  exact hc
/-- the cells that are not the class's stay -/
def FrC (ad : Nat → Nat) (M M' : aM) : Prop := ∀ c, (∀ i, i < 83 → c ≠ ad i) → M' c = M c
theorem FrC_r (ad : Nat → Nat) (M : aM) : FrC ad M M := fun _ _ => rfl
theorem FrC_w {ad : Nat → Nat} {M M' : aM} {i k : Nat} {x : Int} (hi : i < 83) (h : FrC ad M M') : FrC ad M (wr M' (ad i) k x) := fun c hc => by rw [wr_c _ _ _ (hc i hi)]; exact h c hc
theorem vw_w {G : aG} {ad : Nat → Nat} (hB : CB G ad) (M : aM) {i : Nat} (k : Nat) (x : Int) (hi : i < 83) : ∀ j, j < 83 → vw (wr M (ad i) k x) ad j = wr (vw M ad) i k x j := by
  intro j hj
  show wr M (ad i) k x (ad j) = _
  by_cases h : j = i
  · subst h
    unfold wr vw
    rw [va_up_self, va_up_self]
  · rw [wr_c _ _ _ (cb_ne hB hj hi h), wr_c _ _ _ h]
    rfl
theorem vw_RT {G : aG} {ad : Nat → Nat} {M : aM} {td : TD} (hB : CB G ad) : cTo (vw M ad) td ↔ RT G M (ad 3) td := by
  unfold cTo RT vw
  rw [cb_f hB (i := 3) (k := 1) (j := 4) (by decide), cb_f hB (i := 3) (k := 2) (j := 5) (by decide), cb_f hB (i := 3) (k := 3) (j := 6) (by decide), cb_f hB (i := 3) (k := 5) (j := 7) (by decide), cb_f hB (i := 3) (k := 6) (j := 8) (by decide), cb_f hB (i := 3) (k := 7) (j := 9) (by decide), cb_f hB (i := 3) (k := 8) (j := 10) (by decide)]
/-! the reference's view -/
def mvN (X : Nat → Int) (o n : Nat) (nd : ND) : Prop := X o = (ndM nd : Int) ∧ X (o + 7) = (ndG nd : Int) ∧ X (o + 8) = (ndL nd : Int) ∧ X (o + 9) = (ndE nd : Int) ∧ X (o + 10) = (ndH nd : Int) ∧ ∀ p, p < n → X (o + (1 + p)) = (ndT nd p : Int)
def mHi (G : aG) (M : aM) (m n kn : Nat) (hs : Nat → ND) : Prop := M m 7 = (kn : Int) ∧ ∀ k, k < kn → mvN (M (rfA G m 6)) (11 * k) n (hs k)
def mIm (G : aG) (M : aM) (m n kp : Nat) (im : Nat → ND) : Prop := ∀ i, i < 2 → M (rfA G m 9) i = (bt kp i : Int) ∧ (bt kp i = 1 → mvN (M (rfA G m 8)) (11 * i) n (im i))
def mTx (G : aG) (M : aM) (m len : Nat) (tx : Nat → Nat) : Prop := M m 2 = (len : Int) ∧ ∀ i, i < len → M (rfA G m 1) i = (tx i : Int)
def mSt (G : aG) (M : aM) (m sz : Nat) (sn : Nat → Nat) : Prop := M m 11 = (sz : Int) ∧ ∀ i, i < sz → M (rfA G m 10) i = (sn i : Int)
def mGr (G : aG) (M : aM) (m fz : Nat) (am gz : Nat → Nat) : Prop := M m 13 = (fz : Int) ∧ ∀ i, i < fz → M (rfA G m 12) (2 * i) = (am i : Int) ∧ M (rfA G m 12) (2 * i + 1) = (gz i : Int)
def MV (G : aG) (M : aM) (m : Nat) (σ : SG) : Prop := RTm G M m (gTd σ) ∧ mvN (M (rfA G m 5)) 0 (tdN (gTd σ)) (gNd σ) ∧ mHi G M m (tdN (gTd σ)) (gKn σ) (gHs σ) ∧ mIm G M m (tdN (gTd σ)) (gKp σ) (gIm σ) ∧ mTx G M m (gLe σ) (gTx σ) ∧ mSt G M m (gSz σ) (gSn σ) ∧ mGr G M m (gFz σ) (gAm σ) (gGz σ) ∧ M m 0 = gTr σ
/-- the cells that are not the reference's stay -/
def FrM (G : aG) (m : Nat) (M M' : aM) : Prop := ∀ c, c ≠ m → (∀ q ∈ mArr, c ≠ rfA G m q.1) → M' c = M c
theorem FrM_r (G : aG) (m : Nat) (M : aM) : FrM G m M M := fun _ _ _ => rfl
