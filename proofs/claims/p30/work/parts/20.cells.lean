/-! the class: what stands where (109 cells from the object's own on), and what is known of it -/
def zTy (h j : Nat) (c : zC) : Prop :=
  if j = 1 then c = .inr (3, 12, .inr (fun i => if i < 12 then some (h + (2 + 6 * i)) else none))
  else if 2 ≤ j ∧ j < 74 then (
    if (j - 2) % 6 = 0 then ∃ ki sx sy fn od ne hs : Int32, c = .inl (5, [.int ki, .int sx, .int sy, .int fn, .int od, .int ne, .int hs, .ref (h + j + 1), .ref (h + j + 2), .ref (h + j + 3), .ref (h + j + 4), .ref (h + j + 5)]) ∧ 0 ≤ ki.toInt ∧ ki.toInt ≤ 4 ∧ 0 ≤ fn.toInt ∧ fn.toInt ≤ 12 ∧ 0 ≤ od.toInt ∧ od.toInt ≤ 6 ∧ 0 ≤ ne.toInt ∧ ne.toInt ≤ 60 ∧ 0 ≤ hs.toInt ∧ hs.toInt ≤ 60
    else if (j - 2) % 6 = 1 then ∃ f : Nat → Int32, c = .inr (0, 48, .inl f)
    else if (j - 2) % 6 = 2 then ∃ f : Nat → Int32, c = .inr (0, 327, .inl f)
    else if (j - 2) % 6 = 3 then ∃ f : Nat → Int32, c = .inr (0, 327, .inl f)
    else if (j - 2) % 6 = 4 then ∃ f : Nat → Int32, c = .inr (0, 175, .inl f)
    else ∃ f : Nat → Int32, c = .inr (0, 60, .inl f))
  else if j = 0 then ∃ fc nc : Int32, c = .inl (10, [.ref (h + 1), .ref (h + 74), .ref (h + 76), .ref (h + 77), .ref (h + 81), .ref (h + 82), .ref (h + 89), .ref (h + 96), .ref (h + 101), .ref (h + 107), .int fc, .ref (h + 108), .int nc]) ∧ 0 ≤ fc.toInt ∧ fc.toInt ≤ 60 ∧ 0 ≤ nc.toInt ∧ nc.toInt ≤ 24
  else if j = 74 then ∃ t l : Int32, c = .inl (3, [.ref (h + 75), .int t, .int l]) ∧ 2048 ≤ t.toInt ∧ t.toInt ≤ 131072 ∧ (l = 0 ∨ l = 1)
  else if j = 75 then ∃ f : Nat → Int32, c = .inr (0, 131072, .inl f) ∧ (∀ i, (f i).toInt < 2147483647)
  else if j = 76 then c = .inl (1, [.ref (h + 74)])
  else if j = 77 then c = .inl (0, [.ref (h + 74), .ref (h + 76), .ref (h + 78), .ref (h + 79), .ref (h + 80)])
  else if j = 78 then ∃ f : Nat → Int32, c = .inr (0, 96, .inl f)
  else if j = 79 then ∃ f : Nat → Int32, c = .inr (0, 96, .inl f)
  else if j = 80 then ∃ f : Nat → Int32, c = .inr (0, 24, .inl f)
  else if j = 81 then c = .inl (2, [.ref (h + 74), .ref (h + 76), .ref (h + 77)])
  else if j = 82 then ∃ up lo : Int32, c = .inl (8, [.ref (h + 74), .ref (h + 76), .ref (h + 77), .ref (h + 81), .ref (h + 83), .ref (h + 84), .int up, .int lo])
  else if j = 83 then ∃ f : Nat → Int32, c = .inr (0, 3051, .inl f)
  else if j = 84 then ∃ f : Nat → Int32, c = .inr (0, 9, .inl f)
  else if j = 85 then ∃ rows cols fr nd pt rk wo va dn tg : Int32, c = .inl (6, [.ref (h + 74), .ref (h + 86), .ref (h + 87), .ref (h + 88), .int rows, .int cols, .int fr, .int nd, .int pt, .int rk, .int wo, .int va, .int dn, .int tg]) ∧ 0 ≤ rows.toInt ∧ rows.toInt ≤ 60 ∧ 0 ≤ cols.toInt ∧ cols.toInt ≤ 46 ∧ (dn = 0 ∨ dn = 1)
  else if j = 86 then ∃ f : Nat → Int32, c = .inr (0, 2760, .inl f)
  else if j = 87 then ∃ f : Nat → Int32, c = .inr (0, 60, .inl f) ∧ (∀ i, 0 ≤ (f i).toInt ∧ (f i).toInt < 60)
  else if j = 88 then ∃ f : Nat → Int32, c = .inr (0, 46, .inl f)
  else if j = 89 then ∃ tc wc ic cc sc oc sta vc cd lf rg fp : Int32, c = .inl (9, [.ref (h + 82), .ref (h + 90), .int tc, .ref (h + 91), .int wc, .ref (h + 92), .int ic, .ref (h + 93), .int cc, .ref (h + 94), .int sc, .int oc, .int sta, .ref (h + 95), .int vc, .int cd, .int lf, .int rg, .int fp]) ∧ 0 ≤ tc.toInt ∧ tc.toInt ≤ 400 ∧ 0 ≤ wc.toInt ∧ wc.toInt ≤ 4000 ∧ 0 ≤ ic.toInt ∧ 0 ≤ cc.toInt ∧ cc.toInt ≤ 401 ∧ 0 ≤ sc.toInt ∧ sc.toInt ≤ 401 ∧ 0 ≤ vc.toInt ∧ vc.toInt ≤ 401
  else if j = 90 then ∃ f : Nat → Int32, c = .inr (0, 400, .inl f)
  else if j = 91 then ∃ f : Nat → Int32, c = .inr (0, 4000, .inl f)
  else if j = 92 then ∃ f : Nat → Int32, c = .inr (0, 4000, .inl f)
  else if j = 93 then ∃ f : Nat → Int32, c = .inr (0, 1203, .inl f)
  else if j = 94 then ∃ f : Nat → Int32, c = .inr (0, 802, .inl f)
  else if j = 95 then ∃ f : Nat → Int32, c = .inr (0, 401, .inl f)
  else if j = 96 then ∃ fa fb fo qu wh sa dp md : Int32, c = .inl (7, [.ref (h + 74), .ref (h + 76), .ref (h + 77), .ref (h + 81), .ref (h + 82), .ref (h + 85), .int fa, .int fb, .int fo, .int qu, .int wh, .int sa, .int dp, .ref (h + 97), .ref (h + 98), .ref (h + 99), .ref (h + 100), .int md])
  else if j = 97 then ∃ f : Nat → Int32, c = .inr (0, 4, .inl f)
  else if j = 98 then ∃ f : Nat → Int32, c = .inr (0, 4, .inl f)
  else if j = 99 then ∃ f : Nat → Int32, c = .inr (0, 4, .inl f)
  else if j = 100 then ∃ f : Nat → Int32, c = .inr (0, 4, .inl f)
  else if j = 101 then c = .inl (4, [.ref (h + 74), .ref (h + 76), .ref (h + 77), .ref (h + 85), .ref (h + 102), .ref (h + 103), .ref (h + 104), .ref (h + 105), .ref (h + 106)])
  else if j = 102 then ∃ f : Nat → Int32, c = .inr (0, 8, .inl f)
  else if j = 103 then ∃ f : Nat → Int32, c = .inr (0, 301, .inl f)
  else if j = 104 then ∃ f : Nat → Int32, c = .inr (0, 60, .inl f)
  else if j = 105 then ∃ f : Nat → Int32, c = .inr (0, 42, .inl f)
  else if j = 106 then ∃ f : Nat → Int32, c = .inr (0, 42, .inl f)
  else if j = 107 then ∃ f : Nat → Int32, c = .inr (0, 60, .inl f)
  else ∃ f : Nat → Int32, c = .inr (0, 24, .inl f)
def zCI (h : Nat) (w : zM) : Prop := ∀ j, j < 109 → ∃ c, w (h + j) = some c ∧ zTy h j c
/-- the class's cells are as they must be, all others as they were -/
def zG (h : Nat) (w0 w : zM) : Prop := zCI h w ∧ ∀ a, a < h ∨ h + 109 ≤ a → w a = w0 a
theorem zG.put {h : Nat} {w0 w : zM} (hG : zG h w0 w) (j : Nat) (hj : j < 109) {c : zC} (hc : zTy h j c) : zG h w0 (zup w (h + j) c) := by
  refine ⟨fun k hk => ?_, fun a ha => ?_⟩
  · by_cases e : k = j
    · subst e; exact ⟨c, zup_s, hc⟩
    · obtain ⟨c', h1, h2⟩ := hG.1 k hk
      exact ⟨c', by rw [zup_n (by omega)]; exact h1, h2⟩
  · rw [zup_n (by omega)]
    exact hG.2 a ha
/-- a slot's address -/
def zSl (h a : Nat) : Prop := ∃ i, i < 12 ∧ a = h + (2 + 6 * i)
/-- an array of n ints of which nothing else is asked -/
def zIA (h a n : Nat) : Prop := ∃ j, j < 109 ∧ a = h + j ∧ ∀ c, zTy h j c ↔ ∃ f : Nat → Int32, c = .inr (0, n, .inl f)
theorem zIA.rd {h a n : Nat} {w0 w : zM} (hG : zG h w0 w) (ha : zIA h a n) : ∃ f : Nat → Int32, w a = some (.inr (0, n, .inl f)) := by
  obtain ⟨j, hj, rfl, ht⟩ := ha
  obtain ⟨c, h1, h2⟩ := hG.1 j hj
  obtain ⟨f, rfl⟩ := (ht c).mp h2
  exact ⟨f, h1⟩
theorem zIA.wr {h a n : Nat} {w0 w : zM} (hG : zG h w0 w) (ha : zIA h a n) (f : Nat → Int32) : zG h w0 (zup w a (.inr (0, n, .inl f))) := by
  obtain ⟨j, hj, rfl, ht⟩ := ha
  exact hG.put j hj ((ht _).mpr ⟨f, rfl⟩)
theorem rd_0 {h : Nat} {w0 w : zM} (hG : zG h w0 w) : ∃ fc nc : Int32, w (h + 0) = some (.inl (10, [.ref (h + 1), .ref (h + 74), .ref (h + 76), .ref (h + 77), .ref (h + 81), .ref (h + 82), .ref (h + 89), .ref (h + 96), .ref (h + 101), .ref (h + 107), .int fc, .ref (h + 108), .int nc])) ∧ 0 ≤ fc.toInt ∧ fc.toInt ≤ 60 ∧ 0 ≤ nc.toInt ∧ nc.toInt ≤ 24 := by
  obtain ⟨c, h1, h2⟩ := hG.1 0 (by decide)
  obtain ⟨fc, nc, rfl, g0, g1, g2, g3⟩ : ∃ fc nc : Int32, c = .inl (10, [.ref (h + 1), .ref (h + 74), .ref (h + 76), .ref (h + 77), .ref (h + 81), .ref (h + 82), .ref (h + 89), .ref (h + 96), .ref (h + 101), .ref (h + 107), .int fc, .ref (h + 108), .int nc]) ∧ 0 ≤ fc.toInt ∧ fc.toInt ≤ 60 ∧ 0 ≤ nc.toInt ∧ nc.toInt ≤ 24 := h2
  exact ⟨fc, nc, h1, g0, g1, g2, g3⟩
theorem wr_0 {h : Nat} {w0 w : zM} (hG : zG h w0 w) {fc nc : Int32} (g0 : 0 ≤ fc.toInt) (g1 : fc.toInt ≤ 60) (g2 : 0 ≤ nc.toInt) (g3 : nc.toInt ≤ 24) : zG h w0 (zup w (h + 0) (.inl (10, [.ref (h + 1), .ref (h + 74), .ref (h + 76), .ref (h + 77), .ref (h + 81), .ref (h + 82), .ref (h + 89), .ref (h + 96), .ref (h + 101), .ref (h + 107), .int fc, .ref (h + 108), .int nc]))) :=
  hG.put 0 (by decide) (show ∃ fc9 nc9 : Int32, (.inl (10, [.ref (h + 1), .ref (h + 74), .ref (h + 76), .ref (h + 77), .ref (h + 81), .ref (h + 82), .ref (h + 89), .ref (h + 96), .ref (h + 101), .ref (h + 107), .int fc, .ref (h + 108), .int nc]) : zC) = .inl (10, [.ref (h + 1), .ref (h + 74), .ref (h + 76), .ref (h + 77), .ref (h + 81), .ref (h + 82), .ref (h + 89), .ref (h + 96), .ref (h + 101), .ref (h + 107), .int fc9, .ref (h + 108), .int nc9]) ∧ 0 ≤ fc9.toInt ∧ fc9.toInt ≤ 60 ∧ 0 ≤ nc9.toInt ∧ nc9.toInt ≤ 24 from ⟨fc, nc, rfl, g0, g1, g2, g3⟩)
theorem rd_74 {h : Nat} {w0 w : zM} (hG : zG h w0 w) : ∃ t l : Int32, w (h + 74) = some (.inl (3, [.ref (h + 75), .int t, .int l])) ∧ 2048 ≤ t.toInt ∧ t.toInt ≤ 131072 ∧ (l = 0 ∨ l = 1) := by
  obtain ⟨c, h1, h2⟩ := hG.1 74 (by decide)
  obtain ⟨t, l, rfl, g0, g1, g2⟩ : ∃ t l : Int32, c = .inl (3, [.ref (h + 75), .int t, .int l]) ∧ 2048 ≤ t.toInt ∧ t.toInt ≤ 131072 ∧ (l = 0 ∨ l = 1) := h2
  exact ⟨t, l, h1, g0, g1, g2⟩
theorem wr_74 {h : Nat} {w0 w : zM} (hG : zG h w0 w) {t l : Int32} (g0 : 2048 ≤ t.toInt) (g1 : t.toInt ≤ 131072) (g2 : (l = 0 ∨ l = 1)) : zG h w0 (zup w (h + 74) (.inl (3, [.ref (h + 75), .int t, .int l]))) :=
  hG.put 74 (by decide) (show ∃ t9 l9 : Int32, (.inl (3, [.ref (h + 75), .int t, .int l]) : zC) = .inl (3, [.ref (h + 75), .int t9, .int l9]) ∧ 2048 ≤ t9.toInt ∧ t9.toInt ≤ 131072 ∧ (l9 = 0 ∨ l9 = 1) from ⟨t, l, rfl, g0, g1, g2⟩)
theorem rd_75 {h : Nat} {w0 w : zM} (hG : zG h w0 w) : ∃ f : Nat → Int32, w (h + 75) = some (.inr (0, 131072, .inl f)) ∧ (∀ i, (f i).toInt < 2147483647) := by
  obtain ⟨c, h1, h2⟩ := hG.1 75 (by decide)
  obtain ⟨f, rfl, g0⟩ : ∃ f : Nat → Int32, c = .inr (0, 131072, .inl f) ∧ (∀ i, (f i).toInt < 2147483647) := h2
  exact ⟨f, h1, g0⟩
theorem wr_75 {h : Nat} {w0 w : zM} (hG : zG h w0 w) {f : Nat → Int32} (g0 : (∀ i, (f i).toInt < 2147483647)) : zG h w0 (zup w (h + 75) (.inr (0, 131072, .inl f))) := hG.put 75 (by decide) (show ∃ f9 : Nat → Int32, (.inr (0, 131072, .inl f) : zC) = .inr (0, 131072, .inl f9) ∧ (∀ i, (f9 i).toInt < 2147483647) from ⟨f, rfl, g0⟩)
theorem rd_76 {h : Nat} {w0 w : zM} (hG : zG h w0 w) : w (h + 76) = some (.inl (1, [.ref (h + 74)])) := by
  obtain ⟨c, h1, h2⟩ := hG.1 76 (by decide)
  obtain rfl : c = .inl (1, [.ref (h + 74)]) := h2
  exact h1
theorem rd_77 {h : Nat} {w0 w : zM} (hG : zG h w0 w) : w (h + 77) = some (.inl (0, [.ref (h + 74), .ref (h + 76), .ref (h + 78), .ref (h + 79), .ref (h + 80)])) := by
  obtain ⟨c, h1, h2⟩ := hG.1 77 (by decide)
  obtain rfl : c = .inl (0, [.ref (h + 74), .ref (h + 76), .ref (h + 78), .ref (h + 79), .ref (h + 80)]) := h2
  exact h1
theorem ia_78 {h : Nat} : zIA h (h + 78) 96 := ⟨78, by decide, rfl, fun _ => Iff.rfl⟩
theorem ia_79 {h : Nat} : zIA h (h + 79) 96 := ⟨79, by decide, rfl, fun _ => Iff.rfl⟩
theorem ia_80 {h : Nat} : zIA h (h + 80) 24 := ⟨80, by decide, rfl, fun _ => Iff.rfl⟩
theorem rd_81 {h : Nat} {w0 w : zM} (hG : zG h w0 w) : w (h + 81) = some (.inl (2, [.ref (h + 74), .ref (h + 76), .ref (h + 77)])) := by
  obtain ⟨c, h1, h2⟩ := hG.1 81 (by decide)
  obtain rfl : c = .inl (2, [.ref (h + 74), .ref (h + 76), .ref (h + 77)]) := h2
  exact h1
theorem rd_82 {h : Nat} {w0 w : zM} (hG : zG h w0 w) : ∃ up lo : Int32, w (h + 82) = some (.inl (8, [.ref (h + 74), .ref (h + 76), .ref (h + 77), .ref (h + 81), .ref (h + 83), .ref (h + 84), .int up, .int lo])) := by
  obtain ⟨c, h1, h2⟩ := hG.1 82 (by decide)
  obtain ⟨up, lo, rfl⟩ : ∃ up lo : Int32, c = .inl (8, [.ref (h + 74), .ref (h + 76), .ref (h + 77), .ref (h + 81), .ref (h + 83), .ref (h + 84), .int up, .int lo]) := h2
  exact ⟨up, lo, h1⟩
theorem wr_82 {h : Nat} {w0 w : zM} (hG : zG h w0 w) {up lo : Int32} : zG h w0 (zup w (h + 82) (.inl (8, [.ref (h + 74), .ref (h + 76), .ref (h + 77), .ref (h + 81), .ref (h + 83), .ref (h + 84), .int up, .int lo]))) :=
  hG.put 82 (by decide) (show ∃ up9 lo9 : Int32, (.inl (8, [.ref (h + 74), .ref (h + 76), .ref (h + 77), .ref (h + 81), .ref (h + 83), .ref (h + 84), .int up, .int lo]) : zC) = .inl (8, [.ref (h + 74), .ref (h + 76), .ref (h + 77), .ref (h + 81), .ref (h + 83), .ref (h + 84), .int up9, .int lo9]) from ⟨up, lo, rfl⟩)
theorem ia_83 {h : Nat} : zIA h (h + 83) 3051 := ⟨83, by decide, rfl, fun _ => Iff.rfl⟩
theorem ia_84 {h : Nat} : zIA h (h + 84) 9 := ⟨84, by decide, rfl, fun _ => Iff.rfl⟩
theorem rd_85 {h : Nat} {w0 w : zM} (hG : zG h w0 w) : ∃ rows cols fr nd pt rk wo va dn tg : Int32, w (h + 85) = some (.inl (6, [.ref (h + 74), .ref (h + 86), .ref (h + 87), .ref (h + 88), .int rows, .int cols, .int fr, .int nd, .int pt, .int rk, .int wo, .int va, .int dn, .int tg])) ∧ 0 ≤ rows.toInt ∧ rows.toInt ≤ 60 ∧ 0 ≤ cols.toInt ∧ cols.toInt ≤ 46 ∧ (dn = 0 ∨ dn = 1) := by
  obtain ⟨c, h1, h2⟩ := hG.1 85 (by decide)
  obtain ⟨rows, cols, fr, nd, pt, rk, wo, va, dn, tg, rfl, g0, g1, g2, g3, g4⟩ : ∃ rows cols fr nd pt rk wo va dn tg : Int32, c = .inl (6, [.ref (h + 74), .ref (h + 86), .ref (h + 87), .ref (h + 88), .int rows, .int cols, .int fr, .int nd, .int pt, .int rk, .int wo, .int va, .int dn, .int tg]) ∧ 0 ≤ rows.toInt ∧ rows.toInt ≤ 60 ∧ 0 ≤ cols.toInt ∧ cols.toInt ≤ 46 ∧ (dn = 0 ∨ dn = 1) := h2
  exact ⟨rows, cols, fr, nd, pt, rk, wo, va, dn, tg, h1, g0, g1, g2, g3, g4⟩
theorem wr_85 {h : Nat} {w0 w : zM} (hG : zG h w0 w) {rows cols fr nd pt rk wo va dn tg : Int32} (g0 : 0 ≤ rows.toInt) (g1 : rows.toInt ≤ 60) (g2 : 0 ≤ cols.toInt) (g3 : cols.toInt ≤ 46) (g4 : (dn = 0 ∨ dn = 1)) : zG h w0 (zup w (h + 85) (.inl (6, [.ref (h + 74), .ref (h + 86), .ref (h + 87), .ref (h + 88), .int rows, .int cols, .int fr, .int nd, .int pt, .int rk, .int wo, .int va, .int dn, .int tg]))) :=
  hG.put 85 (by decide) (show ∃ rows9 cols9 fr9 nd9 pt9 rk9 wo9 va9 dn9 tg9 : Int32, (.inl (6, [.ref (h + 74), .ref (h + 86), .ref (h + 87), .ref (h + 88), .int rows, .int cols, .int fr, .int nd, .int pt, .int rk, .int wo, .int va, .int dn, .int tg]) : zC) = .inl (6, [.ref (h + 74), .ref (h + 86), .ref (h + 87), .ref (h + 88), .int rows9, .int cols9, .int fr9, .int nd9, .int pt9, .int rk9, .int wo9, .int va9, .int dn9, .int tg9]) ∧ 0 ≤ rows9.toInt ∧ rows9.toInt ≤ 60 ∧ 0 ≤ cols9.toInt ∧ cols9.toInt ≤ 46 ∧ (dn9 = 0 ∨ dn9 = 1) from ⟨rows, cols, fr, nd, pt, rk, wo, va, dn, tg, rfl, g0, g1, g2, g3, g4⟩)
theorem ia_86 {h : Nat} : zIA h (h + 86) 2760 := ⟨86, by decide, rfl, fun _ => Iff.rfl⟩
theorem rd_87 {h : Nat} {w0 w : zM} (hG : zG h w0 w) : ∃ f : Nat → Int32, w (h + 87) = some (.inr (0, 60, .inl f)) ∧ (∀ i, 0 ≤ (f i).toInt ∧ (f i).toInt < 60) := by
  obtain ⟨c, h1, h2⟩ := hG.1 87 (by decide)
  obtain ⟨f, rfl, g0⟩ : ∃ f : Nat → Int32, c = .inr (0, 60, .inl f) ∧ (∀ i, 0 ≤ (f i).toInt ∧ (f i).toInt < 60) := h2
  exact ⟨f, h1, g0⟩
theorem wr_87 {h : Nat} {w0 w : zM} (hG : zG h w0 w) {f : Nat → Int32} (g0 : (∀ i, 0 ≤ (f i).toInt ∧ (f i).toInt < 60)) : zG h w0 (zup w (h + 87) (.inr (0, 60, .inl f))) := hG.put 87 (by decide) (show ∃ f9 : Nat → Int32, (.inr (0, 60, .inl f) : zC) = .inr (0, 60, .inl f9) ∧ (∀ i, 0 ≤ (f9 i).toInt ∧ (f9 i).toInt < 60) from ⟨f, rfl, g0⟩)
theorem ia_88 {h : Nat} : zIA h (h + 88) 46 := ⟨88, by decide, rfl, fun _ => Iff.rfl⟩
theorem rd_89 {h : Nat} {w0 w : zM} (hG : zG h w0 w) : ∃ tc wc ic cc sc oc sta vc cd lf rg fp : Int32, w (h + 89) = some (.inl (9, [.ref (h + 82), .ref (h + 90), .int tc, .ref (h + 91), .int wc, .ref (h + 92), .int ic, .ref (h + 93), .int cc, .ref (h + 94), .int sc, .int oc, .int sta, .ref (h + 95), .int vc, .int cd, .int lf, .int rg, .int fp])) ∧ 0 ≤ tc.toInt ∧ tc.toInt ≤ 400 ∧ 0 ≤ wc.toInt ∧ wc.toInt ≤ 4000 ∧ 0 ≤ ic.toInt ∧ 0 ≤ cc.toInt ∧ cc.toInt ≤ 401 ∧ 0 ≤ sc.toInt ∧ sc.toInt ≤ 401 ∧ 0 ≤ vc.toInt ∧ vc.toInt ≤ 401 := by
  obtain ⟨c, h1, h2⟩ := hG.1 89 (by decide)
  obtain ⟨tc, wc, ic, cc, sc, oc, sta, vc, cd, lf, rg, fp, rfl, g0, g1, g2, g3, g4, g5, g6, g7, g8, g9, g10⟩ : ∃ tc wc ic cc sc oc sta vc cd lf rg fp : Int32, c = .inl (9, [.ref (h + 82), .ref (h + 90), .int tc, .ref (h + 91), .int wc, .ref (h + 92), .int ic, .ref (h + 93), .int cc, .ref (h + 94), .int sc, .int oc, .int sta, .ref (h + 95), .int vc, .int cd, .int lf, .int rg, .int fp]) ∧ 0 ≤ tc.toInt ∧ tc.toInt ≤ 400 ∧ 0 ≤ wc.toInt ∧ wc.toInt ≤ 4000 ∧ 0 ≤ ic.toInt ∧ 0 ≤ cc.toInt ∧ cc.toInt ≤ 401 ∧ 0 ≤ sc.toInt ∧ sc.toInt ≤ 401 ∧ 0 ≤ vc.toInt ∧ vc.toInt ≤ 401 := h2
  exact ⟨tc, wc, ic, cc, sc, oc, sta, vc, cd, lf, rg, fp, h1, g0, g1, g2, g3, g4, g5, g6, g7, g8, g9, g10⟩
theorem wr_89 {h : Nat} {w0 w : zM} (hG : zG h w0 w) {tc wc ic cc sc oc sta vc cd lf rg fp : Int32} (g0 : 0 ≤ tc.toInt) (g1 : tc.toInt ≤ 400) (g2 : 0 ≤ wc.toInt) (g3 : wc.toInt ≤ 4000) (g4 : 0 ≤ ic.toInt) (g5 : 0 ≤ cc.toInt) (g6 : cc.toInt ≤ 401) (g7 : 0 ≤ sc.toInt) (g8 : sc.toInt ≤ 401) (g9 : 0 ≤ vc.toInt) (g10 : vc.toInt ≤ 401) : zG h w0 (zup w (h + 89) (.inl (9, [.ref (h + 82), .ref (h + 90), .int tc, .ref (h + 91), .int wc, .ref (h + 92), .int ic, .ref (h + 93), .int cc, .ref (h + 94), .int sc, .int oc, .int sta, .ref (h + 95), .int vc, .int cd, .int lf, .int rg, .int fp]))) :=
  hG.put 89 (by decide) (show ∃ tc9 wc9 ic9 cc9 sc9 oc9 sta9 vc9 cd9 lf9 rg9 fp9 : Int32, (.inl (9, [.ref (h + 82), .ref (h + 90), .int tc, .ref (h + 91), .int wc, .ref (h + 92), .int ic, .ref (h + 93), .int cc, .ref (h + 94), .int sc, .int oc, .int sta, .ref (h + 95), .int vc, .int cd, .int lf, .int rg, .int fp]) : zC) = .inl (9, [.ref (h + 82), .ref (h + 90), .int tc9, .ref (h + 91), .int wc9, .ref (h + 92), .int ic9, .ref (h + 93), .int cc9, .ref (h + 94), .int sc9, .int oc9, .int sta9, .ref (h + 95), .int vc9, .int cd9, .int lf9, .int rg9, .int fp9]) ∧ 0 ≤ tc9.toInt ∧ tc9.toInt ≤ 400 ∧ 0 ≤ wc9.toInt ∧ wc9.toInt ≤ 4000 ∧ 0 ≤ ic9.toInt ∧ 0 ≤ cc9.toInt ∧ cc9.toInt ≤ 401 ∧ 0 ≤ sc9.toInt ∧ sc9.toInt ≤ 401 ∧ 0 ≤ vc9.toInt ∧ vc9.toInt ≤ 401 from ⟨tc, wc, ic, cc, sc, oc, sta, vc, cd, lf, rg, fp, rfl, g0, g1, g2, g3, g4, g5, g6, g7, g8, g9, g10⟩)
theorem ia_90 {h : Nat} : zIA h (h + 90) 400 := ⟨90, by decide, rfl, fun _ => Iff.rfl⟩
theorem ia_91 {h : Nat} : zIA h (h + 91) 4000 := ⟨91, by decide, rfl, fun _ => Iff.rfl⟩
theorem ia_92 {h : Nat} : zIA h (h + 92) 4000 := ⟨92, by decide, rfl, fun _ => Iff.rfl⟩
theorem ia_93 {h : Nat} : zIA h (h + 93) 1203 := ⟨93, by decide, rfl, fun _ => Iff.rfl⟩
theorem ia_94 {h : Nat} : zIA h (h + 94) 802 := ⟨94, by decide, rfl, fun _ => Iff.rfl⟩
theorem ia_95 {h : Nat} : zIA h (h + 95) 401 := ⟨95, by decide, rfl, fun _ => Iff.rfl⟩
theorem rd_96 {h : Nat} {w0 w : zM} (hG : zG h w0 w) : ∃ fa fb fo qu wh sa dp md : Int32, w (h + 96) = some (.inl (7, [.ref (h + 74), .ref (h + 76), .ref (h + 77), .ref (h + 81), .ref (h + 82), .ref (h + 85), .int fa, .int fb, .int fo, .int qu, .int wh, .int sa, .int dp, .ref (h + 97), .ref (h + 98), .ref (h + 99), .ref (h + 100), .int md])) := by
  obtain ⟨c, h1, h2⟩ := hG.1 96 (by decide)
  obtain ⟨fa, fb, fo, qu, wh, sa, dp, md, rfl⟩ : ∃ fa fb fo qu wh sa dp md : Int32, c = .inl (7, [.ref (h + 74), .ref (h + 76), .ref (h + 77), .ref (h + 81), .ref (h + 82), .ref (h + 85), .int fa, .int fb, .int fo, .int qu, .int wh, .int sa, .int dp, .ref (h + 97), .ref (h + 98), .ref (h + 99), .ref (h + 100), .int md]) := h2
  exact ⟨fa, fb, fo, qu, wh, sa, dp, md, h1⟩
theorem wr_96 {h : Nat} {w0 w : zM} (hG : zG h w0 w) {fa fb fo qu wh sa dp md : Int32} : zG h w0 (zup w (h + 96) (.inl (7, [.ref (h + 74), .ref (h + 76), .ref (h + 77), .ref (h + 81), .ref (h + 82), .ref (h + 85), .int fa, .int fb, .int fo, .int qu, .int wh, .int sa, .int dp, .ref (h + 97), .ref (h + 98), .ref (h + 99), .ref (h + 100), .int md]))) :=
  hG.put 96 (by decide) (show ∃ fa9 fb9 fo9 qu9 wh9 sa9 dp9 md9 : Int32, (.inl (7, [.ref (h + 74), .ref (h + 76), .ref (h + 77), .ref (h + 81), .ref (h + 82), .ref (h + 85), .int fa, .int fb, .int fo, .int qu, .int wh, .int sa, .int dp, .ref (h + 97), .ref (h + 98), .ref (h + 99), .ref (h + 100), .int md]) : zC) = .inl (7, [.ref (h + 74), .ref (h + 76), .ref (h + 77), .ref (h + 81), .ref (h + 82), .ref (h + 85), .int fa9, .int fb9, .int fo9, .int qu9, .int wh9, .int sa9, .int dp9, .ref (h + 97), .ref (h + 98), .ref (h + 99), .ref (h + 100), .int md9]) from ⟨fa, fb, fo, qu, wh, sa, dp, md, rfl⟩)
theorem ia_97 {h : Nat} : zIA h (h + 97) 4 := ⟨97, by decide, rfl, fun _ => Iff.rfl⟩
theorem ia_98 {h : Nat} : zIA h (h + 98) 4 := ⟨98, by decide, rfl, fun _ => Iff.rfl⟩
theorem ia_99 {h : Nat} : zIA h (h + 99) 4 := ⟨99, by decide, rfl, fun _ => Iff.rfl⟩
theorem ia_100 {h : Nat} : zIA h (h + 100) 4 := ⟨100, by decide, rfl, fun _ => Iff.rfl⟩
theorem rd_101 {h : Nat} {w0 w : zM} (hG : zG h w0 w) : w (h + 101) = some (.inl (4, [.ref (h + 74), .ref (h + 76), .ref (h + 77), .ref (h + 85), .ref (h + 102), .ref (h + 103), .ref (h + 104), .ref (h + 105), .ref (h + 106)])) := by
  obtain ⟨c, h1, h2⟩ := hG.1 101 (by decide)
  obtain rfl : c = .inl (4, [.ref (h + 74), .ref (h + 76), .ref (h + 77), .ref (h + 85), .ref (h + 102), .ref (h + 103), .ref (h + 104), .ref (h + 105), .ref (h + 106)]) := h2
  exact h1
theorem ia_102 {h : Nat} : zIA h (h + 102) 8 := ⟨102, by decide, rfl, fun _ => Iff.rfl⟩
theorem ia_103 {h : Nat} : zIA h (h + 103) 301 := ⟨103, by decide, rfl, fun _ => Iff.rfl⟩
theorem ia_104 {h : Nat} : zIA h (h + 104) 60 := ⟨104, by decide, rfl, fun _ => Iff.rfl⟩
theorem ia_105 {h : Nat} : zIA h (h + 105) 42 := ⟨105, by decide, rfl, fun _ => Iff.rfl⟩
theorem ia_106 {h : Nat} : zIA h (h + 106) 42 := ⟨106, by decide, rfl, fun _ => Iff.rfl⟩
theorem ia_107 {h : Nat} : zIA h (h + 107) 60 := ⟨107, by decide, rfl, fun _ => Iff.rfl⟩
theorem ia_108 {h : Nat} : zIA h (h + 108) 24 := ⟨108, by decide, rfl, fun _ => Iff.rfl⟩
theorem rd_1 {h : Nat} {w0 w : zM} (hG : zG h w0 w) : w (h + 1) = some (.inr (3, 12, .inr (fun i => if i < 12 then some (h + (2 + 6 * i)) else none))) := by
  obtain ⟨c, h1, h2⟩ := hG.1 1 (by decide)
  obtain rfl : c = .inr (3, 12, .inr (fun i => if i < 12 then some (h + (2 + 6 * i)) else none)) := h2
  exact h1
theorem zTy_slot {h i : Nat} (hi : i < 12) (c : zC) : zTy h (2 + 6 * i) c ↔ ∃ ki sx sy fn od ne hs : Int32, c = .inl (5, [.int ki, .int sx, .int sy, .int fn, .int od, .int ne, .int hs, .ref ((h + (2 + 6 * i)) + 1), .ref ((h + (2 + 6 * i)) + 2), .ref ((h + (2 + 6 * i)) + 3), .ref ((h + (2 + 6 * i)) + 4), .ref ((h + (2 + 6 * i)) + 5)]) ∧ 0 ≤ ki.toInt ∧ ki.toInt ≤ 4 ∧ 0 ≤ fn.toInt ∧ fn.toInt ≤ 12 ∧ 0 ≤ od.toInt ∧ od.toInt ≤ 6 ∧ 0 ≤ ne.toInt ∧ ne.toInt ≤ 60 ∧ 0 ≤ hs.toInt ∧ hs.toInt ≤ 60 := by
  have e1 : ¬ (2 + 6 * i = 1) := by omega
  have e2 : 2 ≤ 2 + 6 * i ∧ 2 + 6 * i < 74 := by omega
  have e3 : (2 + 6 * i - 2) % 6 = 0 := by omega
  unfold zTy
  rw [if_neg e1, if_pos e2, if_pos e3]
theorem ia_slot1 {h a : Nat} (ha : zSl h a) : zIA h (a + 1) 48 := by
  obtain ⟨i, hi, rfl⟩ := ha
  refine ⟨2 + 6 * i + 1, by omega, by omega, fun c => ?_⟩
  have e1 : ¬ (2 + 6 * i + 1 = 1) := by omega
  have e2 : 2 ≤ 2 + 6 * i + 1 ∧ 2 + 6 * i + 1 < 74 := by omega
  unfold zTy
  rw [if_neg e1, if_pos e2, if_neg (show ¬ (2 + 6 * i + 1 - 2) % 6 = 0 by omega), if_pos (show (2 + 6 * i + 1 - 2) % 6 = 1 by omega)]
theorem ia_slot2 {h a : Nat} (ha : zSl h a) : zIA h (a + 2) 327 := by
  obtain ⟨i, hi, rfl⟩ := ha
  refine ⟨2 + 6 * i + 2, by omega, by omega, fun c => ?_⟩
  have e1 : ¬ (2 + 6 * i + 2 = 1) := by omega
  have e2 : 2 ≤ 2 + 6 * i + 2 ∧ 2 + 6 * i + 2 < 74 := by omega
  unfold zTy
  rw [if_neg e1, if_pos e2, if_neg (show ¬ (2 + 6 * i + 2 - 2) % 6 = 0 by omega), if_neg (show ¬ (2 + 6 * i + 2 - 2) % 6 = 1 by omega), if_pos (show (2 + 6 * i + 2 - 2) % 6 = 2 by omega)]
theorem ia_slot3 {h a : Nat} (ha : zSl h a) : zIA h (a + 3) 327 := by
  obtain ⟨i, hi, rfl⟩ := ha
  refine ⟨2 + 6 * i + 3, by omega, by omega, fun c => ?_⟩
  have e1 : ¬ (2 + 6 * i + 3 = 1) := by omega
  have e2 : 2 ≤ 2 + 6 * i + 3 ∧ 2 + 6 * i + 3 < 74 := by omega
  unfold zTy
  rw [if_neg e1, if_pos e2, if_neg (show ¬ (2 + 6 * i + 3 - 2) % 6 = 0 by omega), if_neg (show ¬ (2 + 6 * i + 3 - 2) % 6 = 1 by omega), if_neg (show ¬ (2 + 6 * i + 3 - 2) % 6 = 2 by omega), if_pos (show (2 + 6 * i + 3 - 2) % 6 = 3 by omega)]
theorem ia_slot4 {h a : Nat} (ha : zSl h a) : zIA h (a + 4) 175 := by
  obtain ⟨i, hi, rfl⟩ := ha
  refine ⟨2 + 6 * i + 4, by omega, by omega, fun c => ?_⟩
  have e1 : ¬ (2 + 6 * i + 4 = 1) := by omega
  have e2 : 2 ≤ 2 + 6 * i + 4 ∧ 2 + 6 * i + 4 < 74 := by omega
  unfold zTy
  rw [if_neg e1, if_pos e2, if_neg (show ¬ (2 + 6 * i + 4 - 2) % 6 = 0 by omega), if_neg (show ¬ (2 + 6 * i + 4 - 2) % 6 = 1 by omega), if_neg (show ¬ (2 + 6 * i + 4 - 2) % 6 = 2 by omega), if_neg (show ¬ (2 + 6 * i + 4 - 2) % 6 = 3 by omega), if_pos (show (2 + 6 * i + 4 - 2) % 6 = 4 by omega)]
theorem ia_slot5 {h a : Nat} (ha : zSl h a) : zIA h (a + 5) 60 := by
  obtain ⟨i, hi, rfl⟩ := ha
  refine ⟨2 + 6 * i + 5, by omega, by omega, fun c => ?_⟩
  have e1 : ¬ (2 + 6 * i + 5 = 1) := by omega
  have e2 : 2 ≤ 2 + 6 * i + 5 ∧ 2 + 6 * i + 5 < 74 := by omega
  unfold zTy
  rw [if_neg e1, if_pos e2, if_neg (show ¬ (2 + 6 * i + 5 - 2) % 6 = 0 by omega), if_neg (show ¬ (2 + 6 * i + 5 - 2) % 6 = 1 by omega), if_neg (show ¬ (2 + 6 * i + 5 - 2) % 6 = 2 by omega), if_neg (show ¬ (2 + 6 * i + 5 - 2) % 6 = 3 by omega), if_neg (show ¬ (2 + 6 * i + 5 - 2) % 6 = 4 by omega)]
theorem rd_slot {h a : Nat} {w0 w : zM} (hG : zG h w0 w) (ha : zSl h a) : ∃ ki sx sy fn od ne hs : Int32, w a = some (.inl (5, [.int ki, .int sx, .int sy, .int fn, .int od, .int ne, .int hs, .ref (a + 1), .ref (a + 2), .ref (a + 3), .ref (a + 4), .ref (a + 5)])) ∧ 0 ≤ ki.toInt ∧ ki.toInt ≤ 4 ∧ 0 ≤ fn.toInt ∧ fn.toInt ≤ 12 ∧ 0 ≤ od.toInt ∧ od.toInt ≤ 6 ∧ 0 ≤ ne.toInt ∧ ne.toInt ≤ 60 ∧ 0 ≤ hs.toInt ∧ hs.toInt ≤ 60 := by
  obtain ⟨i, hi, rfl⟩ := ha
  obtain ⟨c, h1, h2⟩ := hG.1 (2 + 6 * i) (by omega)
  obtain ⟨ki, sx, sy, fn, od, ne, hs, rfl, g0, g1, g2, g3, g4, g5, g6, g7, g8, g9⟩ := (zTy_slot hi c).mp h2
  exact ⟨ki, sx, sy, fn, od, ne, hs, h1, g0, g1, g2, g3, g4, g5, g6, g7, g8, g9⟩
theorem wr_slot {h a : Nat} {w0 w : zM} (hG : zG h w0 w) (ha : zSl h a) {ki sx sy fn od ne hs : Int32} (g0 : 0 ≤ ki.toInt) (g1 : ki.toInt ≤ 4) (g2 : 0 ≤ fn.toInt) (g3 : fn.toInt ≤ 12) (g4 : 0 ≤ od.toInt) (g5 : od.toInt ≤ 6) (g6 : 0 ≤ ne.toInt) (g7 : ne.toInt ≤ 60) (g8 : 0 ≤ hs.toInt) (g9 : hs.toInt ≤ 60) : zG h w0 (zup w a (.inl (5, [.int ki, .int sx, .int sy, .int fn, .int od, .int ne, .int hs, .ref (a + 1), .ref (a + 2), .ref (a + 3), .ref (a + 4), .ref (a + 5)]))) := by
  obtain ⟨i, hi, rfl⟩ := ha
  exact hG.put (2 + 6 * i) (by omega) ((zTy_slot hi _).mpr ⟨ki, sx, sy, fn, od, ne, hs, rfl, g0, g1, g2, g3, g4, g5, g6, g7, g8, g9⟩)
