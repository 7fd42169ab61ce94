/-! what U and B hold -/
def zU (w : zM) (a cap : Nat) (p : zA1) : Prop := ∃ (n : Int32) (f : Nat → Int32), w a = some (.inl (14, [.ref (a + 1), .int n])) ∧ w (a + 1) = some (.inr (0, cap, .inl f)) ∧ n.toInt = zln p ∧ zln p ≤ cap ∧ ∀ i, i < zln p → zr1 (f i) ∧ zf (f i) = p.1 i
theorem zU.o {w : zM} {a cap : Nat} {p : zA1} (h : zU w a cap p) : zUo w a cap := by
  obtain ⟨n, f, h1, h2, -⟩ := h
  exact ⟨n, f, h1, h2⟩
theorem zU.ag {w w' : zM} {a cap : Nat} {p : zA1} (h : zU w a cap p) (he : ∀ x, a ≤ x → x < a + 2 → w' x = w x) : zU w' a cap p := by
  obtain ⟨n, f, h1, h2, h3⟩ := h
  exact ⟨n, f, (he a (by omega) (by omega)).trans h1, (he (a + 1) (by omega) (by omega)).trans h2, h3⟩
theorem zU.cap {w : zM} {a cap : Nat} {p : zA1} (h : zU w a cap p) : zln p ≤ cap := by
  obtain ⟨n, f, h1, h2, h3, h4, h5⟩ := h
  exact h4
theorem zUo.ne {w : zM} {a b ca cb : Nat} (h : zUo w a ca) (h' : zUo w b cb) : a + 1 ≠ b := by
  rintro rfl
  obtain ⟨n, f, h1, h2⟩ := h
  obtain ⟨n', f', h3, h4⟩ := h'
  rw [h2] at h3
  cases h3
/-- polynomials in two letters: how many rows -/
abbrev zbZ : zA2 := letI := zA2R; 0
abbrev zbO : zA2 := letI := zA2R; 1
abbrev zbA (p q : zA2) : zA2 := letI := zA2R; p + q
abbrev zbS (p q : zA2) : zA2 := letI := zA2R; p - q
abbrev zbM (p q : zA2) : zA2 := letI := zA2R; p * q
/-- a polynomial in n as one in n and k -/
abbrev zbC (c : zA1) : zA2 := @zKo zA1 zA1R c
theorem zbZ_c (i : Nat) : zbZ.1 i = zaZ := by
  show @zcst zA1 zA1R (@zNc zA1 zA1R 0) i = _
  rw [@zNc0 zA1 zA1R]
  cases i <;> rfl
theorem zbO_c (i : Nat) : zbO.1 i = if i = 0 then zaO else zaZ := by
  show @zcst zA1 zA1R (@zNc zA1 zA1R 1) i = _
  rw [@zNc1 zA1 zA1R]
  cases i <;> rfl
theorem zbA_c (p q : zA2) (i : Nat) : (zbA p q).1 i = zaA (p.1 i) (q.1 i) := rfl
theorem zbS_c (p q : zA2) (i : Nat) : (zbS p q).1 i = zaS (p.1 i) (q.1 i) := rfl
theorem zbM_c (p q : zA2) (i : Nat) : (zbM p q).1 i = @zcv zA1 zA1R p.1 q.1 i := rfl
theorem zbC_c (c : zA1) (i : Nat) : (zbC c).1 i = if i = 0 then c else zaZ := by
  cases i <;> rfl
theorem zbCM_c (c : zA1) (p : zA2) (i : Nat) : (zbM (zbC c) p).1 i = zaM c (p.1 i) := @zcv_cst zA1 zA1R c p.1 i
theorem zb_ext {p q : zA2} (h : ∀ i, p.1 i = q.1 i) : p = q := @zPl_ext zA1 zA1R _ _ (funext h)
theorem zrw_ex (p : zA2) : ∃ d, @zDg zA1 zA1R p.1 d ∧ (d = 0 ∨ p.1 (d - 1) ≠ zaZ) := by
  obtain ⟨d, hd⟩ := p.2
  by_cases h0 : @zDg zA1 zA1R p.1 0
  · exact ⟨0, h0, Or.inl rfl⟩
  · obtain ⟨a, ha, hn⟩ := @zDg_least zA1 zA1R p.1 d hd h0
    exact ⟨a + 1, ha, Or.inr hn⟩
noncomputable def zrw (p : zA2) : Nat := Classical.choose (zrw_ex p)
theorem zrw_dg (p : zA2) (i : Nat) (hi : zrw p ≤ i) : p.1 i = zaZ := (Classical.choose_spec (zrw_ex p)).1 i hi
theorem zrw_top (p : zA2) : zrw p = 0 ∨ p.1 (zrw p - 1) ≠ zaZ := (Classical.choose_spec (zrw_ex p)).2
theorem zrw_le {p : zA2} {d : Nat} (h : ∀ i, d ≤ i → p.1 i = zaZ) : zrw p ≤ d := by
  rcases zrw_top p with h1 | h1
  · omega
  · apply Nat.le_of_not_lt
    intro h2
    exact h1 (h _ (by omega))
theorem zrw_uniq {p : zA2} {d : Nat} (h : ∀ i, d ≤ i → p.1 i = zaZ) (ht : d = 0 ∨ p.1 (d - 1) ≠ zaZ) : zrw p = d := by
  have h1 := zrw_le h
  rcases ht with h2 | h2
  · omega
  · apply Nat.le_antisymm h1
    apply Nat.le_of_not_lt
    intro h3
    exact h2 (zrw_dg p _ (by omega))
theorem zrw_0 {p : zA2} : zrw p = 0 ↔ p = zbZ := by
  constructor
  · intro h
    exact zb_ext fun i => by rw [zbZ_c, zrw_dg p i (by omega)]
  · rintro rfl
    exact zrw_uniq (fun i _ => zbZ_c i) (Or.inl rfl)
theorem zrw_hd {p : zA2} (h : 0 < zrw p) : p.1 (zrw p - 1) ≠ zaZ := by
  rcases zrw_top p with h1 | h1
  · omega
  · exact h1
def zBo (w : zM) (b : Nat) : Prop := ∃ r : Int32, w b = some (.inl (11, [.ref (b + 1), .int r])) ∧ w (b + 1) = some (.inr (4, 64, zbr b)) ∧ ∀ j, j < 64 → zUo w (b + 2 + 2 * j) 200
def zB (w : zM) (b : Nat) (q : zA2) : Prop := ∃ r : Int32, w b = some (.inl (11, [.ref (b + 1), .int r])) ∧ w (b + 1) = some (.inr (4, 64, zbr b)) ∧ r.toInt = zrw q ∧ zrw q ≤ 64 ∧ (∀ j, j < zrw q → zU w (b + 2 + 2 * j) 200 (q.1 j)) ∧ ∀ j, j < 64 → zUo w (b + 2 + 2 * j) 200
theorem zB.o {w : zM} {b : Nat} {q : zA2} (h : zB w b q) : zBo w b := by
  obtain ⟨r, h1, h2, -, -, -, h3⟩ := h
  exact ⟨r, h1, h2, h3⟩
theorem zUo.ag {w w' : zM} {a cap : Nat} (h : zUo w a cap) (he : ∀ x, a ≤ x → x < a + 2 → w' x = w x) : zUo w' a cap := by
  obtain ⟨n, f, h1, h2⟩ := h
  exact ⟨n, f, (he a (by omega) (by omega)).trans h1, (he (a + 1) (by omega) (by omega)).trans h2⟩
theorem zB.ag {w w' : zM} {b : Nat} {q : zA2} (h : zB w b q) (he : ∀ x, b ≤ x → x < b + 130 → w' x = w x) : zB w' b q := by
  obtain ⟨r, h1, h2, h3, h4, h5, h6⟩ := h
  exact ⟨r, (he b (by omega) (by omega)).trans h1, (he (b + 1) (by omega) (by omega)).trans h2, h3, h4, fun j hj => (h5 j hj).ag fun x g1 g2 => he x (by omega) (by omega), fun j hj => (h6 j hj).ag fun x g1 g2 => he x (by omega) (by omega)⟩
theorem zB.row {w : zM} {b : Nat} {q : zA2} (h : zB w b q) (j : Nat) (hj : j < zrw q) : zU w (b + 2 + 2 * j) 200 (q.1 j) := by
  obtain ⟨r, h1, h2, h3, h4, h5, h6⟩ := h
  exact h5 j hj
theorem zB.rowo {w : zM} {b : Nat} {q : zA2} (h : zB w b q) (j : Nat) (hj : j < 64) : zUo w (b + 2 + 2 * j) 200 := by
  obtain ⟨r, h1, h2, h3, h4, h5, h6⟩ := h
  exact h6 j hj
theorem zB.rows {w : zM} {b : Nat} {q : zA2} (h : zB w b q) : zrw q ≤ 64 := by
  obtain ⟨r, h1, h2, h3, h4, h5, h6⟩ := h
  exact h4
theorem zBo.rowo {w : zM} {b : Nat} (h : zBo w b) (j : Nat) (hj : j < 64) : zUo w (b + 2 + 2 * j) 200 := by
  obtain ⟨r, h1, h2, h3⟩ := h
  exact h3 j hj
theorem zBo.si {w w' : zM} {b : Nat} (h : zBo w b) (hs : zSI w w') : zBo w' b := by
  obtain ⟨r, h1, h2, h3⟩ := h
  have h4 : ∀ j, j < 64 → zUo w' (b + 2 + 2 * j) 200 := fun j hj => (h3 j hj).si hs
  obtain ⟨c2, g2, s2⟩ := hs _ _ h2
  have e2 : c2 = .inr (4, 64, zbr b) := by
    rcases s2 with rfl | s2
    · rfl
    · match c2, s2 with
      | .inr (t, n, .inr f), ⟨e1, e2, e3⟩ =>
        subst e1; subst e2
        rcases e3 with rfl | e3
        · rfl
        · exact absurd e3 (by decide)
  obtain ⟨c1, g1, s1⟩ := hs _ _ h1
  rcases s1 with rfl | s1
  · exact ⟨r, g1, by rw [g2, e2], h4⟩
  · match c1, s1 with
    | .inl (ci, fs), ⟨e1, l1, q1⟩ =>
      subst e1
      match fs, l1, q1 with
      | [u, v], _, q1 =>
        rcases q1 0 _ u rfl rfl with k1 | k1
        · rcases q1 1 _ v rfl rfl with k2 | k2
          · cases u <;> simp only [zVs] at k1
            cases v <;> simp only [zVs] at k2
            subst k1
            exact ⟨_, g1, by rw [g2, e2], h4⟩
          · exact absurd k2.1 (by decide)
        · exact absurd k1.1 (by decide)
/-- a B is put together out of its rows -/
theorem zB.mk {w : zM} {b : Nat} {q : zA2} {r : Int32} (hb : zBo w b) (hr : w b = some (.inl (11, [.ref (b + 1), .int r]))) (h1 : r.toInt = zrw q) (h2 : zrw q ≤ 64) (h3 : ∀ j, j < zrw q → zU w (b + 2 + 2 * j) 200 (q.1 j)) : zB w b q := by
  obtain ⟨r', g1, g2, g3⟩ := hb
  exact ⟨r, hr, g2, h1, h2, h3, g3⟩
theorem zU.mk {w : zM} {a cap : Nat} {p : zA1} {n : Int32} {f : Nat → Int32} (h1 : w a = some (.inl (14, [.ref (a + 1), .int n]))) (h2 : w (a + 1) = some (.inr (0, cap, .inl f))) (h3 : n.toInt = zln p) (h4 : zln p ≤ cap) (h5 : ∀ i, i < zln p → zr1 (f i) ∧ zf (f i) = p.1 i) : zU w a cap p := ⟨n, f, h1, h2, h3, h4, h5⟩
/-- an empty one -/
theorem zU.mk0 {w : zM} {a cap : Nat} {f : Nat → Int32} (h1 : w a = some (.inl (14, [.ref (a + 1), .int 0]))) (h2 : w (a + 1) = some (.inr (0, cap, .inl f))) : zU w a cap zaZ :=
  ⟨0, f, h1, h2, by rw [zln_Z]; decide, by rw [zln_Z]; exact Nat.zero_le _, fun i hi => by rw [zln_Z] at hi; omega⟩
theorem zbr_at {b : Nat} {j : Int32} (hj : 0 ≤ j.toInt ∧ j.toInt < 64) : va_rf ((fun i => if i < 64 then some (b + 2 + 2 * i) else none) j.toNatClampNeg) = .ref (b + 2 + 2 * j.toNatClampNeg) := by
  have h1 := znat hj.1
  show va_rf (if j.toNatClampNeg < 64 then _ else _) = _
  rw [if_pos (by omega)]
  rfl
theorem zus_at {b : Nat} {j : Int32} (hj : 0 ≤ j.toInt ∧ j.toInt < 160) : va_rf ((fun i => if i < 160 then some (b + 276 + 2 * i) else none) j.toNatClampNeg) = .ref (b + 276 + 2 * j.toNatClampNeg) := by
  have h1 := znat hj.1
  show va_rf (if j.toNatClampNeg < 160 then _ else _) = _
  rw [if_pos (by omega)]
  rfl
theorem zbs_at {b : Nat} {j : Int32} (hj : 0 ≤ j.toInt ∧ j.toInt < 44) : va_rf ((fun i => if i < 44 then some (b + 596 + 130 * i) else none) j.toNatClampNeg) = .ref (b + 596 + 130 * j.toNatClampNeg) := by
  have h1 := znat hj.1
  show va_rf (if j.toNatClampNeg < 44 then _ else _) = _
  rw [if_pos (by omega)]
  rfl
def zsv (r : Nat → Value) (k : Nat) (v : Value) : Nat → Value := fun i => if i = k then v else r i
theorem zr_put2 {d : Nat} {q : zQ} {pc : Nat} {lv : zL} {w : zM} {sz mc ms : Nat} {Post : Option (Option Value) → zM → Nat → Prop} {a : Nat} {r : List Value} {idx ci k : Nat} {fs fs2 : List Value} {v : Value} {ty : FieldType} (hi : zlk (zqI q) pc = some (.putfield idx)) (hl : zlk (zqP q).1 idx = some (ci, k)) (hw : w a = some (.inl (ci, fs))) (hk : k < fs.length) (ht : zft ci k = some (ty, false)) (hf : zfit ty v = true) (he : fs.set k v = fs2) (kk : zP d q (pc + 3) lv r (zup w a (.inl (ci, fs2))) sz mc ms Post) : zP d q pc lv (v :: .ref a :: r) w sz mc ms Post := by
  subst he
  exact zr_put hi hl hw hk ht hf kk
theorem zSI.setU {w : zM} {a b : Nat} {n n' : Int32} (hw : w a = some (.inl (14, [.ref b, .int n]))) : zSI w (zup w a (.inl (14, [.ref b, .int n']))) := by
  refine zSI.up hw ⟨rfl, rfl, fun k u v hu hv => ?_⟩
  rcases k with _ | _ | k
  · cases hu; cases hv; exact Or.inl rfl
  · cases hu; cases hv; exact Or.inl trivial
  · cases hu
theorem zSI.setB {w : zM} {a b : Nat} {n n' : Int32} (hw : w a = some (.inl (11, [.ref b, .int n]))) : zSI w (zup w a (.inl (11, [.ref b, .int n']))) := by
  refine zSI.up hw ⟨rfl, rfl, fun k u v hu hv => ?_⟩
  rcases k with _ | _ | k
  · cases hu; cases hv; exact Or.inl rfl
  · cases hu; cases hv; exact Or.inl trivial
  · cases hu
theorem zSI.setG {w : zM} {m : Nat} {g : Nat → Int32} {r : Nat → Value} (hw : w m = some (.inl (15, zMo m g r))) (g' : Nat → Int32) (r' : Nat → Value) : zSI w (zup w m (.inl (15, zMo m g' r'))) := by
  refine zSI.up hw ⟨rfl, rfl, fun k u v hu hv => ?_⟩
  rcases k with _|_|_|_|_|_|_|_|_|_|_|_|_|_|_|_|_|_|_|_|_|_|_|_|_|_|_|_|_|_|_|_|_|_|_|_|_|_|_|_|_|_|_|_|_|_|_|_|_|_|_|_|_|_|_|_|_|_|_|_|_|_|_|_|_|k
  all_goals first
    | (exact Or.inr ⟨rfl, by omega⟩)
    | (cases hu; cases hv; first | exact Or.inl trivial | exact Or.inl rfl)
    | (cases hu)
theorem zSI.setT {w : zM} {t : Nat} {g : Nat → Int32} (hw : w t = some (.inl (13, zTo t g))) (g' : Nat → Int32) : zSI w (zup w t (.inl (13, zTo t g'))) := by
  refine zSI.up hw ⟨rfl, rfl, fun k u v hu hv => ?_⟩
  rcases k with _|_|_|_|_|_|_|_|_|_|_|_|_|_|_|k
  all_goals first
    | (cases hu; cases hv; first | exact Or.inl trivial | exact Or.inl rfl)
    | (cases hu)
theorem zR_ia {m j t n : Nat} {f0 : Nat → Int32} {w : zM} (h : zR m w) (hj : j < 8322) (he : zT0 m j = .inr (t, n, .inl f0)) : ∃ f : Nat → Int32, w (m + j) = some (.inr (t, n, .inl f)) := by
  obtain ⟨c, h1, h2⟩ := h j hj
  rw [he] at h2
  match c, h2 with
  | .inr (t', n', .inl f), ⟨e1, e2⟩ => subst e1; subst e2; exact ⟨f, h1⟩
theorem zR_ra {m j t n : Nat} {f : Nat → Option Nat} {w : zM} (h : zR m w) (hj : j < 8322) (he : zT0 m j = .inr (t, n, .inr f)) (hv : zVar t n = false) : w (m + j) = some (.inr (t, n, .inr f)) := by
  obtain ⟨c, h1, h2⟩ := h j hj
  rw [he] at h2
  match c, h2 with
  | .inr (t', n', .inr f'), ⟨e1, e2, e3⟩ =>
    subst e1; subst e2
    rcases e3 with rfl | e3
    · exact h1
    · rw [hv] at e3; cases e3
theorem zR.us {m : Nat} {w : zM} (h : zR m w) : w (m + 1) = some (.inr (4, 160, zus m)) := zR_ra h (by decide) rfl rfl
theorem zR.bs {m : Nat} {w : zM} (h : zR m w) : w (m + 2) = some (.inr (5, 44, zbs m)) := zR_ra h (by decide) rfl rfl
theorem zT0_us {m i : Nat} (hi : i < 320) : zT0 m (276 + i) = zUC (m + (276 + i)) (i % 2) 1000 := by
  unfold zT0
  iterate 42 (first | rw [if_neg (by omega)] | skip)
  rw [if_pos (by omega), show 276 + i - 276 = i by omega]
theorem zR.usU {m : Nat} {w : zM} (h : zR m w) (i : Nat) (hi : i < 160) : zUo w (m + 276 + 2 * i) 1000 := by
  obtain ⟨c1, h1, s1⟩ := h (276 + 2 * i) (by omega)
  obtain ⟨c2, h2, s2⟩ := h (276 + (2 * i + 1)) (by omega)
  rw [zT0_us (by omega)] at s1 s2
  rw [show 2 * i % 2 = 0 by omega] at s1
  rw [show (2 * i + 1) % 2 = 1 by omega] at s2
  rw [show m + (276 + 2 * i) = m + 276 + 2 * i by omega] at h1 s1
  rw [show m + (276 + (2 * i + 1)) = m + 276 + 2 * i + 1 by omega] at h2 s2
  exact zUo_of h1 h2 s1 s2
theorem zT0_bs {m i : Nat} (hi : i < 5720) : zT0 m (596 + i) = zBC (m + (596 + i)) (i % 130) := by
  unfold zT0
  iterate 43 (first | rw [if_neg (by omega)] | skip)
  rw [if_pos (by omega), show 596 + i - 596 = i by omega]
theorem zR.bsB {m : Nat} {w : zM} (h : zR m w) (i : Nat) (hi : i < 44) : zBo w (m + 596 + 130 * i) := by
  obtain ⟨c1, h1, s1⟩ := h (596 + 130 * i) (by omega)
  obtain ⟨c2, h2, s2⟩ := h (596 + (130 * i + 1)) (by omega)
  rw [zT0_bs (by omega)] at s1 s2
  rw [show 130 * i % 130 = 0 by omega] at s1
  rw [show (130 * i + 1) % 130 = 1 by omega] at s2
  have hrow : ∀ j, j < 64 → zUo w (m + 596 + 130 * i + 2 + 2 * j) 200 := by
    intro j hj
    obtain ⟨d1, g1, t1⟩ := h (596 + (130 * i + 2 + 2 * j)) (by omega)
    obtain ⟨d2, g2, t2⟩ := h (596 + (130 * i + 2 + 2 * j + 1)) (by omega)
    rw [zT0_bs (by omega)] at t1 t2
    rw [show (130 * i + 2 + 2 * j) % 130 = 2 + 2 * j by omega] at t1
    rw [show (130 * i + 2 + 2 * j + 1) % 130 = 3 + 2 * j by omega] at t2
    unfold zBC at t1 t2
    rw [if_neg (by omega), if_neg (by omega), show (2 + 2 * j) % 2 = 0 by omega] at t1
    rw [if_neg (by omega), if_neg (by omega), show (3 + 2 * j) % 2 = 1 by omega] at t2
    rw [show m + (596 + (130 * i + 2 + 2 * j)) = m + 596 + 130 * i + 2 + 2 * j by omega] at g1 t1
    rw [show m + (596 + (130 * i + 2 + 2 * j + 1)) = m + 596 + 130 * i + 2 + 2 * j + 1 by omega] at g2 t2
    exact zUo_of g1 g2 t1 t2
  rw [show m + (596 + 130 * i) = m + 596 + 130 * i by omega] at h1 s1
  rw [show m + (596 + (130 * i + 1)) = m + 596 + 130 * i + 1 by omega] at h2 s2
  generalize m + 596 + 130 * i = b at *
  have e2 : c2 = .inr (4, 64, zbr b) := by
    match c2, s2 with
    | .inr (t, n, .inr f), ⟨e1, e2, e3⟩ =>
      subst e1; subst e2
      rcases e3 with rfl | e3
      · rfl
      · exact absurd e3 (by decide)
  subst e2
  match c1, s1 with
  | .inl (ci, fs), ⟨e1, l1, q1⟩ =>
    subst e1
    match fs, l1, q1 with
    | [u, v], _, q1 =>
      rcases q1 0 _ u rfl rfl with k1 | k1
      · rcases q1 1 _ v rfl rfl with k2 | k2
        · cases u <;> simp only [zVs] at k1
          cases v <;> simp only [zVs] at k2
          subst k1
          exact ⟨_, h1, h2, hrow⟩
        · exact absurd k2.1 (by decide)
      · exact absurd k1.1 (by decide)
theorem zr_acpy {d : Nat} {q : zQ} {pc : Nat} {lv : zL} {w : zM} {sz mc ms : Nat} {Post : Option (Option Value) → zM → Nat → Prop} {a b : Nat} {r : List Value} {idx n0 n1 : Nat} {f g : Nat → Int32} {nn sp dp : Int32} (hi : zlk (zqI q) pc = some (.invokestatic idx)) (hk : zlk (zqK q) idx = some 1003) (ha : w a = some (.inr (0, n0, .inl f))) (hb : w b = some (.inr (0, n1, .inl g))) (ht : (0 : Nat) = 0) (h1 : 0 ≤ sp.toInt) (h2 : 0 ≤ dp.toInt) (h3 : 0 ≤ nn.toInt) (h4 : sp.toInt + nn.toInt ≤ n0) (h5 : dp.toInt + nn.toInt ≤ n1) (hd : 1 ≤ d) (hs : zsum r ≤ 8)
    (kk : zP d q (pc + 3) lv r (zup w b (.inr (0, n1, .inl (va_cpy f g sp.toNatClampNeg dp.toNatClampNeg nn.toNatClampNeg)))) sz mc ms Post) : zP d q pc lv (.int nn :: .int dp :: .ref b :: .int sp :: .ref a :: r) w sz mc ms Post := by
  have l0 : (0 : Int32).toInt = 0 := by decide
  have e1 := znat h1
  have e2 := znat h2
  have e3 := znat h3
  have n1' : ¬ sp < 0 := fun h => by have := zltI h; omega
  have n2' : ¬ dp < 0 := fun h => by have := zltI h; omega
  have n3' : ¬ nn < 0 := fun h => by have := zltI h; omega
  exact zp_spec hi rfl rfl rfl rfl (by simp only [zspec, hk, ha, hb]; rw [if_pos ⟨hd, hs, trivial, n1', n2', n3', by omega, by omega⟩]) kk
theorem zidivI (x y : Int32) : (x / y).toInt = (x.toInt.tdiv y.toInt + 2147483648) % 4294967296 - 2147483648 := by rw [Int32.toInt_div, zbm]
theorem ziremI (x y : Int32) (hy : 0 < y.toInt) : (x - x / y * y).toInt = x.toInt.tmod y.toInt := by
  have h2 := Int.tmod_add_tdiv_mul x.toInt y.toInt
  have r := zrng x
  have r' := zrng y
  have h3 := Int.tmod_lt_of_pos x.toInt hy
  have h4 := Int.lt_tmod_of_pos x.toInt hy
  have e1 := zmulM (x / y) y
  rw [zidivI] at e1
  have e2 := zsubM x (x / y * y)
  have key : ∀ (t : Int), ((t + 2147483648) % 4294967296 - 2147483648) * y.toInt % 4294967296 = t * y.toInt % 4294967296 := by
    intro t
    have e : (t + 2147483648) % 4294967296 - 2147483648 = t - 4294967296 * ((t + 2147483648) / 4294967296) := by omega
    rw [e, Int.sub_mul, Int.mul_assoc, Int.sub_mul_emod_self_left]
  have k := key (x.toInt.tdiv y.toInt)
  generalize ((x.toInt.tdiv y.toInt + 2147483648) % 4294967296 - 2147483648) * y.toInt = s at *
  generalize x.toInt.tdiv y.toInt * y.toInt = t at *
  omega
theorem zR.ia_3 {m : Nat} {w : zM} (h : zR m w) : ∃ f : Nat → Int32, w (m + 3) = some (.inr (0, 700, .inl f)) := zR_ia h (by decide) rfl
theorem zR.ia_70 {m : Nat} {w : zM} (h : zR m w) : ∃ f : Nat → Int32, w (m + 70) = some (.inr (0, 325, .inl f)) := zR_ia h (by decide) rfl
theorem zR.ia_71 {m : Nat} {w : zM} (h : zR m w) : ∃ f : Nat → Int32, w (m + 71) = some (.inr (0, 325, .inl f)) := zR_ia h (by decide) rfl
theorem zR.ia_72 {m : Nat} {w : zM} (h : zR m w) : ∃ f : Nat → Int32, w (m + 72) = some (.inr (0, 13, .inl f)) := zR_ia h (by decide) rfl
theorem zR.ia_73 {m : Nat} {w : zM} (h : zR m w) : ∃ f : Nat → Int32, w (m + 73) = some (.inr (0, 13, .inl f)) := zR_ia h (by decide) rfl
theorem zR.ia_74 {m : Nat} {w : zM} (h : zR m w) : ∃ f : Nat → Int32, w (m + 74) = some (.inr (0, 13, .inl f)) := zR_ia h (by decide) rfl
theorem zR.ia_75 {m : Nat} {w : zM} (h : zR m w) : ∃ f : Nat → Int32, w (m + 75) = some (.inr (0, 13, .inl f)) := zR_ia h (by decide) rfl
theorem zR.ia_76 {m : Nat} {w : zM} (h : zR m w) : ∃ f : Nat → Int32, w (m + 76) = some (.inr (0, 175, .inl f)) := zR_ia h (by decide) rfl
theorem zR.ia_77 {m : Nat} {w : zM} (h : zR m w) : ∃ f : Nat → Int32, w (m + 77) = some (.inr (0, 361, .inl f)) := zR_ia h (by decide) rfl
theorem zR.ia_78 {m : Nat} {w : zM} (h : zR m w) : ∃ f : Nat → Int32, w (m + 78) = some (.inr (2, 13, .inl f)) := zR_ia h (by decide) rfl
theorem zR.ia_80 {m : Nat} {w : zM} (h : zR m w) : ∃ f : Nat → Int32, w (m + 80) = some (.inr (1, 400, .inl f)) := zR_ia h (by decide) rfl
theorem zR.ia_84 {m : Nat} {w : zM} (h : zR m w) : ∃ f : Nat → Int32, w (m + 84) = some (.inr (0, 325, .inl f)) := zR_ia h (by decide) rfl
theorem zR.ia_85 {m : Nat} {w : zM} (h : zR m w) : ∃ f : Nat → Int32, w (m + 85) = some (.inr (0, 325, .inl f)) := zR_ia h (by decide) rfl
theorem zR.ia_86 {m : Nat} {w : zM} (h : zR m w) : ∃ f : Nat → Int32, w (m + 86) = some (.inr (0, 13, .inl f)) := zR_ia h (by decide) rfl
theorem zR.ia_87 {m : Nat} {w : zM} (h : zR m w) : ∃ f : Nat → Int32, w (m + 87) = some (.inr (0, 13, .inl f)) := zR_ia h (by decide) rfl
theorem zR.ia_88 {m : Nat} {w : zM} (h : zR m w) : ∃ f : Nat → Int32, w (m + 88) = some (.inr (0, 13, .inl f)) := zR_ia h (by decide) rfl
theorem zR.ia_89 {m : Nat} {w : zM} (h : zR m w) : ∃ f : Nat → Int32, w (m + 89) = some (.inr (0, 13, .inl f)) := zR_ia h (by decide) rfl
theorem zR.ia_90 {m : Nat} {w : zM} (h : zR m w) : ∃ f : Nat → Int32, w (m + 90) = some (.inr (0, 175, .inl f)) := zR_ia h (by decide) rfl
theorem zR.ia_91 {m : Nat} {w : zM} (h : zR m w) : ∃ f : Nat → Int32, w (m + 91) = some (.inr (0, 361, .inl f)) := zR_ia h (by decide) rfl
theorem zR.ia_92 {m : Nat} {w : zM} (h : zR m w) : ∃ f : Nat → Int32, w (m + 92) = some (.inr (1, 4000, .inl f)) := zR_ia h (by decide) rfl
theorem zR.ia_93 {m : Nat} {w : zM} (h : zR m w) : ∃ f : Nat → Int32, w (m + 93) = some (.inr (1, 4000, .inl f)) := zR_ia h (by decide) rfl
theorem zR.ia_94 {m : Nat} {w : zM} (h : zR m w) : ∃ f : Nat → Int32, w (m + 94) = some (.inr (0, 60, .inl f)) := zR_ia h (by decide) rfl
theorem zR.ia_95 {m : Nat} {w : zM} (h : zR m w) : ∃ f : Nat → Int32, w (m + 95) = some (.inr (0, 30, .inl f)) := zR_ia h (by decide) rfl
theorem zR.ia_96 {m : Nat} {w : zM} (h : zR m w) : ∃ f : Nat → Int32, w (m + 96) = some (.inr (0, 120, .inl f)) := zR_ia h (by decide) rfl
theorem zR.ia_97 {m : Nat} {w : zM} (h : zR m w) : ∃ f : Nat → Int32, w (m + 97) = some (.inr (0, 120, .inl f)) := zR_ia h (by decide) rfl
theorem zR.ia_98 {m : Nat} {w : zM} (h : zR m w) : ∃ f : Nat → Int32, w (m + 98) = some (.inr (0, 120, .inl f)) := zR_ia h (by decide) rfl
theorem zR.ia_99 {m : Nat} {w : zM} (h : zR m w) : ∃ f : Nat → Int32, w (m + 99) = some (.inr (0, 120, .inl f)) := zR_ia h (by decide) rfl
theorem zR.ia_177 {m : Nat} {w : zM} (h : zR m w) : ∃ f : Nat → Int32, w (m + 177) = some (.inr (2, 14, .inl f)) := zR_ia h (by decide) rfl
theorem zR.ia_178 {m : Nat} {w : zM} (h : zR m w) : ∃ f : Nat → Int32, w (m + 178) = some (.inr (0, 14, .inl f)) := zR_ia h (by decide) rfl
theorem zR.ia_273 {m : Nat} {w : zM} (h : zR m w) : ∃ f : Nat → Int32, w (m + 273) = some (.inr (0, 46, .inl f)) := zR_ia h (by decide) rfl
theorem zR.ia_274 {m : Nat} {w : zM} (h : zR m w) : ∃ f : Nat → Int32, w (m + 274) = some (.inr (0, 30, .inl f)) := zR_ia h (by decide) rfl
theorem zR.ia_275 {m : Nat} {w : zM} (h : zR m w) : ∃ f : Nat → Int32, w (m + 275) = some (.inr (0, 101, .inl f)) := zR_ia h (by decide) rfl
