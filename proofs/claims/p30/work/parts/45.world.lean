/-! the reference: what stands where (8322 cells from the object's own on) -/
def zs (g : Nat → Int32) (k : Nat) (v : Int32) : Nat → Int32 := fun i => if i = k then v else g i
/-- the fields of the reference's object: its numbers g, five that change r -/
def zMo (m : Nat) (g : Nat → Int32) (r : Nat → Value) : List Value := [.ref (m + 1), .int (g 1), .ref (m + 2), .int (g 3), .ref (m + 3), .ref (m + 4), .ref (m + 69), .ref (m + 78), .ref (m + 79), .int (g 9), .int (g 10), .ref (m + 80), .int (g 12), .int (g 13), .int (g 14), .ref (m + 81), .int (g 16), .int (g 17), .int (g 18), .int (g 19), .ref (m + 82), .ref (m + 83), .int (g 22), .ref (m + 92), .int (g 24), .int (g 25), .ref (m + 93), .int (g 27), .ref (m + 94), .int (g 29), .ref (m + 95), .int (g 31), .ref (m + 96), .ref (m + 97), .ref (m + 98), .ref (m + 99), .int (g 36), .int (g 37), .ref (m + 100), r 39, r 40, r 41, r 42, r 43, .ref (m + 149), .ref (m + 176), .ref (m + 177), .ref (m + 178), .int (g 48), .ref (m + 179), .ref (m + 180), .ref (m + 181), .ref (m + 186), .ref (m + 191), .ref (m + 192), .ref (m + 193), .ref (m + 194), .ref (m + 202), .ref (m + 210), .ref (m + 211), .ref (m + 212), .ref (m + 273), .ref (m + 274), .int (g 63), .ref (m + 275)]
def zTo (t : Nat) (g : Nat → Int32) : List Value := [.int (g 0), .ref (t + 1), .ref (t + 2), .int (g 3), .int (g 4), .int (g 5), .ref (t + 3), .ref (t + 4), .ref (t + 5), .ref (t + 6), .int (g 10), .ref (t + 7), .int (g 12), .int (g 13), .ref (t + 8)]
def zus (m : Nat) : zA := .inr (fun i => if i < 160 then some (m + 276 + 2 * i) else none)
def zbs (m : Nat) : zA := .inr (fun i => if i < 44 then some (m + 596 + 130 * i) else none)
def zbr (b : Nat) : zA := .inr (fun i => if i < 64 then some (b + 2 + 2 * i) else none)
def zThC (t j : Nat) : zC := if j = 0 then .inl (13, zTo t (fun _ => 0)) else .inr (0, (match j with | 1 => 325 | 2 => 325 | 3 => 13 | 4 => 13 | 5 => 13 | 6 => 13 | 7 => 175 | _ => 361), .inl (fun _ => 0))
/-- a cell of a U: the object (place 0), its array -/
def zUC (a j cap : Nat) : zC := if j = 0 then .inl (14, [.ref (a + 1), .int 0]) else .inr (0, cap, .inl (fun _ => 0))
def zBC (a j : Nat) : zC := if j = 0 then .inl (11, [.ref (a + 1), .int 0]) else if j = 1 then .inr (4, 64, zbr (a - 1)) else zUC a (j % 2) 200
def zT0 (m j : Nat) : zC :=
  if j < 1 then .inl (15, zMo m (fun _ => 0) (fun _ => .null)) else
  if j < 2 then .inr (4, 160, zus m) else
  if j < 3 then .inr (5, 44, zbs m) else
  if j < 4 then .inr (0, 700, .inl (fun _ => 0)) else
  if j < 5 then .inr (7, 64, .inr (fun i => if i < 64 then some (m + 5 + i) else none)) else
  if j < 69 then .inr (0, 700, .inl (fun _ => 0)) else
  if j < 78 then zThC (m + 69) (j - 69) else
  if j < 79 then .inr (2, 13, .inl (fun _ => 0)) else
  if j < 80 then .inl (12, [.null, .null, .null, .null, .null, .int 0]) else
  if j < 81 then .inr (1, 400, .inl (fun _ => 0)) else
  if j < 82 then .inr (6, 130, .inr (fun i => if i < 130 then some (m + 6316 + 9 * i) else none)) else
  if j < 83 then .inr (6, 12, .inr (fun i => if i < 12 then some (m + 7486 + 9 * i) else none)) else
  if j < 92 then zThC (m + 83) (j - 83) else
  if j < 94 then .inr (1, 4000, .inl (fun _ => 0)) else
  if j < 95 then .inr (0, 60, .inl (fun _ => 0)) else
  if j < 96 then .inr (0, 30, .inl (fun _ => 0)) else
  if j < 100 then .inr (0, 120, .inl (fun _ => 0)) else
  if j < 101 then .inr (7, 48, .inr (fun i => if i < 48 then some (m + 101 + i) else none)) else
  if j < 149 then .inr (0, 48, .inl (fun _ => 0)) else
  if j < 150 then .inr (8, 26, .inr (fun i => if i < 26 then some (m + 150 + i) else none)) else
  if j < 176 then .inr (4, 14, .inr (fun i => if i < 14 then some (m + 7594 + 28 * (j - 150) + 2 * i) else none)) else
  if j < 177 then .inr (4, 14, .inr (fun _ => none)) else
  if j < 178 then .inr (2, 14, .inl (fun _ => 0)) else
  if j < 179 then .inr (0, 14, .inl (fun _ => 0)) else
  if j < 180 then .inr (5, 4, .inr (fun _ => none)) else
  if j < 181 then .inr (4, 4, .inr (fun _ => none)) else
  if j < 182 then .inr (7, 4, .inr (fun i => if i < 4 then some (m + 182 + i) else none)) else
  if j < 186 then .inr (0, 325, .inl (fun _ => 0)) else
  if j < 187 then .inr (7, 4, .inr (fun i => if i < 4 then some (m + 187 + i) else none)) else
  if j < 191 then .inr (0, 325, .inl (fun _ => 0)) else
  if j < 193 then .inr (5, 4, .inr (fun _ => none)) else
  if j < 194 then .inr (4, 8, .inr (fun _ => none)) else
  if j < 195 then .inr (8, 7, .inr (fun i => if i < 7 then some (m + 195 + i) else none)) else
  if j < 202 then .inr (4, 6, .inr (fun _ => none)) else
  if j < 203 then .inr (8, 7, .inr (fun i => if i < 7 then some (m + 203 + i) else none)) else
  if j < 210 then .inr (4, 6, .inr (fun _ => none)) else
  if j < 212 then .inr (4, 7, .inr (fun _ => none)) else
  if j < 213 then .inr (7, 60, .inr (fun i => if i < 60 then some (m + 213 + i) else none)) else
  if j < 273 then .inr (0, 46, .inl (fun _ => 0)) else
  if j < 274 then .inr (0, 46, .inl (fun _ => 0)) else
  if j < 275 then .inr (0, 30, .inl (fun _ => 0)) else
  if j < 276 then .inr (0, 101, .inl (fun _ => 0)) else
  if j < 596 then zUC (m + j) ((j - 276) % 2) 1000 else
  if j < 6316 then zBC (m + j) ((j - 596) % 130) else
  if j < 7594 then zThC (m + 6316 + 9 * ((j - 6316) / 9)) ((j - 6316) % 9) else
  zUC (m + j) ((j - 7594) % 2) 1000
/-! cells alike: numbers may differ, what is pointed at doesn't (but for what is said) -/
def zVs : Value → Value → Prop
  | .int _, .int _ => True
  | .ref a, .ref b => a = b
  | .null, .null => True
  | _, _ => False
theorem zVs_tr {u v x : Value} (h1 : zVs u v) (h2 : zVs v x) : zVs u x := by
  cases u <;> cases v <;> simp only [zVs] at h1 <;> cases x <;> simp only [zVs] at h2 ⊢
  rw [h1]; exact h2
def zVar (t n : Nat) : Bool := (t == 8 && n == 26) || (t == 7 && (n == 48 || n == 60)) || (t == 5 && n == 4) || (t == 4 && (n == 4 || n == 8 || n == 6 || n == 7 || n == 14))
def zSim : zC → zC → Prop
  | .inl (ci, fs), .inl (cj, gs) => ci = cj ∧ fs.length = gs.length ∧ ∀ k u v, fs[k]? = some u → gs[k]? = some v → zVs u v ∨ (ci = 15 ∧ 39 ≤ k ∧ k < 44)
  | .inr (t, n, .inl _), .inr (t', n', .inl _) => t = t' ∧ n = n'
  | .inr (t, n, .inr f), .inr (t', n', .inr g) => t = t' ∧ n = n' ∧ (f = g ∨ zVar t n = true)
  | _, _ => False
theorem zVs_rf (u : Value) (h : ∀ x y : Value, u = x → (∃ n, x = .int n) ∨ (∃ a, x = .ref a) ∨ x = .null) : zVs u u := by
  rcases h u u rfl with ⟨n, rfl⟩ | ⟨a, rfl⟩ | rfl
  · trivial
  · rfl
  · trivial
theorem zSim_tr {a b c : zC} (h1 : zSim a b) (h2 : zSim b c) : zSim a c := by
  match a, b, c, h1, h2 with
  | .inl (ci, fs), .inl (cj, gs), .inl (ck, hs), ⟨e1, l1, q1⟩, ⟨e2, l2, q2⟩ =>
    refine ⟨e1.trans e2, l1.trans l2, fun k u v hu hv => ?_⟩
    have hk : k < gs.length := by rw [← l1]; exact (List.getElem?_eq_some_iff.mp hu).1
    have hg : gs[k]? = some gs[k] := List.getElem?_eq_getElem hk
    rcases q1 k u _ hu hg with h | h
    · rcases q2 k _ v hg hv with h' | h'
      · exact Or.inl (zVs_tr h h')
      · exact Or.inr ⟨e1.trans h'.1, h'.2⟩
    · exact Or.inr h
  | .inr (t, n, .inl _), .inr (t', n', .inl _), .inr (t'', n'', .inl _), ⟨e1, e2⟩, ⟨e3, e4⟩ => exact ⟨e1.trans e3, e2.trans e4⟩
  | .inr (t, n, .inr f), .inr (t', n', .inr g), .inr (t'', n'', .inr k), ⟨e1, e2, e5⟩, ⟨e3, e4, e6⟩ =>
    subst e1; subst e2
    refine ⟨e3, e4, ?_⟩
    rcases e5 with rfl | h
    · exact e6
    · exact Or.inr h
/-- a world behind another one: each cell alike -/
def zSI (w w' : zM) : Prop := ∀ x c, w x = some c → ∃ c', w' x = some c' ∧ (c' = c ∨ zSim c c')
theorem zSI.rf {w : zM} : zSI w w := fun _ c h => ⟨c, h, Or.inl rfl⟩
theorem zSI.tr {w w1 w2 : zM} (h1 : zSI w w1) (h2 : zSI w1 w2) : zSI w w2 := fun x c h => by
  obtain ⟨c1, g1, s1⟩ := h1 x c h
  obtain ⟨c2, g2, s2⟩ := h2 x c1 g1
  refine ⟨c2, g2, ?_⟩
  rcases s1 with rfl | s1
  · exact s2
  · rcases s2 with rfl | s2
    · exact Or.inr s1
    · exact Or.inr (zSim_tr s1 s2)
theorem zSI.up {w : zM} {a : Nat} {c c' : zC} (hw : w a = some c) (h : zSim c c') : zSI w (zup w a c') := fun x d hx => by
  by_cases e : x = a
  · subst e
    rw [hw] at hx
    cases hx
    exact ⟨c', zup_s, Or.inr h⟩
  · exact ⟨d, by rw [zup_n e]; exact hx, Or.inl rfl⟩
def zVok (fs : List Value) : Prop := ∀ (k : Nat) (u : Value), fs[k]? = some u → zVs u u
theorem zVok_of {fs : List Value} (h : fs.all (fun v => match v with | .int _ => true | .ref _ => true | .null => true | _ => false) = true) : zVok fs := fun k u hu => by
  have h1 := List.all_eq_true.mp h u (List.mem_of_getElem? hu)
  cases u <;> first | trivial | rfl | cases h1
theorem zSI.set {w : zM} {a ci k : Nat} {fs : List Value} {x v : Int32} (hok : zVok fs) (hw : w a = some (.inl (ci, fs))) (hk : fs[k]? = some (.int x)) : zSI w (zup w a (.inl (ci, fs.set k (.int v)))) := by
  refine zSI.up hw ⟨rfl, (List.length_set).symm, fun j u y hu hy => Or.inl ?_⟩
  rw [List.getElem?_set] at hy
  split at hy
  · next e =>
    subst e
    rw [hk] at hu
    cases hu
    split at hy
    · cases hy; trivial
    · cases hy
  · rw [hu] at hy
    cases hy
    exact hok j u hu
theorem zSI.setv {w : zM} {a k : Nat} {fs : List Value} {v : Value} (hok : zVok fs) (hw : w a = some (.inl (15, fs))) (hk : 39 ≤ k ∧ k < 44) : zSI w (zup w a (.inl (15, fs.set k v))) := by
  refine zSI.up hw ⟨rfl, (List.length_set).symm, fun j u y hu hy => ?_⟩
  rw [List.getElem?_set] at hy
  split at hy
  · next e => subst e; exact Or.inr ⟨rfl, hk⟩
  · rw [hu] at hy
    cases hy
    exact Or.inl (hok j u hu)
theorem zSI.arr {w : zM} {a t n : Nat} {f : Nat → Int32} (g : Nat → Int32) (hw : w a = some (.inr (t, n, .inl f))) : zSI w (zup w a (.inr (t, n, .inl g))) := zSI.up hw ⟨rfl, rfl⟩
theorem zSI.refs {w : zM} {a t n : Nat} {f : Nat → Option Nat} (g : Nat → Option Nat) (hw : w a = some (.inr (t, n, .inr f))) (hv : zVar t n = true) : zSI w (zup w a (.inr (t, n, .inr g))) := zSI.up hw ⟨rfl, rfl, Or.inr hv⟩
/-! shapes -/
def zUo (w : zM) (a cap : Nat) : Prop := ∃ (n : Int32) (f : Nat → Int32), w a = some (.inl (14, [.ref (a + 1), .int n])) ∧ w (a + 1) = some (.inr (0, cap, .inl f))
theorem zUo_of {w : zM} {a cap : Nat} {c1 c2 : zC} (h1 : w a = some c1) (h2 : w (a + 1) = some c2) (s1 : zSim (zUC a 0 cap) c1) (s2 : zSim (zUC (a + 1) 1 cap) c2) : zUo w a cap := by
  match c1, c2, s1, s2 with
  | .inl (ci, fs), .inr (t, n, .inl f), ⟨e1, e2, e3⟩, ⟨e4, e5⟩ =>
    subst e1; subst e4; subst e5
    match fs, e2, e3 with
    | [u, v], _, e3 =>
      have q1 := e3 0 _ u rfl rfl
      have q2 := e3 1 _ v rfl rfl
      rcases q1 with q1 | q1
      · rcases q2 with q2 | q2
        · cases u <;> simp only [zVs] at q1
          cases v <;> simp only [zVs] at q2
          subst q1
          exact ⟨_, f, h1, h2⟩
        · exact absurd q2.1 (by decide)
      · exact absurd q1.1 (by decide)
theorem zUo.si {w w' : zM} {a cap : Nat} (h : zUo w a cap) (hs : zSI w w') : zUo w' a cap := by
  obtain ⟨n, f, h1, h2⟩ := h
  obtain ⟨c1, g1, s1⟩ := hs _ _ h1
  obtain ⟨c2, g2, s2⟩ := hs _ _ h2
  rcases s1 with rfl | s1
  · rcases s2 with rfl | s2
    · exact ⟨n, f, g1, g2⟩
    · match c2, s2 with
      | .inr (t, k, .inl g), ⟨e1, e2⟩ => subst e1; subst e2; exact ⟨n, g, g1, g2⟩
  · have s1' : zSim (zUC a 0 cap) c1 := by
      refine zSim_tr ?_ s1
      refine ⟨rfl, rfl, fun k u v hu hv => ?_⟩
      rcases k with _ | _ | k
      · cases hu; cases hv; exact Or.inl rfl
      · cases hu; cases hv; exact Or.inl trivial
      · cases hu
    refine zUo_of g1 g2 s1' ?_
    rcases s2 with rfl | s2
    · exact ⟨rfl, rfl⟩
    · exact zSim_tr (b := .inr (0, cap, .inl f)) ⟨rfl, rfl⟩ s2
/-- every cell of the reference is as it must be -/
def zR (m : Nat) (w : zM) : Prop := ∀ j, j < 8322 → ∃ c, w (m + j) = some c ∧ zSim (zT0 m j) c
theorem zR.si {m : Nat} {w w' : zM} (h : zR m w) (hs : zSI w w') : zR m w' := fun j hj => by
  obtain ⟨c, h1, h2⟩ := h j hj
  obtain ⟨c', g1, s1⟩ := hs _ _ h1
  refine ⟨c', g1, ?_⟩
  rcases s1 with rfl | s1
  · exact h2
  · exact zSim_tr h2 s1
def zGof (fs : List Value) (k : Nat) : Int32 := match fs[k]? with
  | some (.int x) => x
  | _ => 0
theorem zGof_eq {fs : List Value} {k : Nat} {x : Int32} (h : fs[k]? = some (.int x)) : zGof fs k = x := by
  unfold zGof
  rw [h]
def zRof (fs : List Value) (k : Nat) : Value := match fs[k]? with
  | some v => v
  | none => Value.null
theorem zRof_eq {fs : List Value} {k : Nat} {x : Value} (h : fs[k]? = some x) : zRof fs k = x := by
  unfold zRof
  rw [h]
theorem zMo_of {m : Nat} {fs : List Value} (h : zSim (.inl (15, zMo m (fun _ => 0) (fun _ => .null))) (.inl (15, fs))) : ∃ g r, fs = zMo m g r := by
  obtain ⟨-, hl, hq⟩ := h
  refine ⟨zGof fs, zRof fs, ?_⟩
  apply List.ext_getElem?
  intro k
  have hlen : fs.length = 65 := hl.symm
  by_cases hk : k < 65
  · have hk2 : fs[k]? = some fs[k] := List.getElem?_eq_getElem (by omega)
    generalize fs[k] = v at hk2
    have key : ∀ u, (zMo m (fun _ => 0) (fun _ => .null))[k]? = some u → zVs u v ∨ (15 = 15 ∧ 39 ≤ k ∧ k < 44) := fun u hu => hq k u v hu hk2
    clear hq hl
    rw [hk2]
    rcases k with _|_|_|_|_|_|_|_|_|_|_|_|_|_|_|_|_|_|_|_|_|_|_|_|_|_|_|_|_|_|_|_|_|_|_|_|_|_|_|_|_|_|_|_|_|_|_|_|_|_|_|_|_|_|_|_|_|_|_|_|_|_|_|_|_|k
    all_goals first
      | (exfalso; omega)
      | (show some v = some (zRof fs _); rw [zRof_eq hk2])
      | (rcases key _ rfl with h1 | h1
         · cases v <;> simp only [zVs] at h1
           first
             | (subst h1; rfl)
             | (show some (Value.int _) = some (Value.int (zGof fs _)); rw [zGof_eq hk2])
         · exfalso; omega)
  · rw [List.getElem?_eq_none (by omega), List.getElem?_eq_none (by show 65 ≤ k; omega)]
theorem zR.model {m : Nat} {w : zM} (h : zR m w) : ∃ g r, w m = some (.inl (15, zMo m g r)) := by
  obtain ⟨c, h1, h2⟩ := h 0 (by decide)
  match c, h2 with
  | .inl (ci, fs), h2 =>
    have e : 15 = ci := h2.1
    subst e
    obtain ⟨g, r, rfl⟩ := zMo_of h2
    exact ⟨g, r, h1⟩
theorem zMo_ok {m : Nat} {g : Nat → Int32} {r : Nat → Value} {k : Nat} {u : Value} (hk : (zMo m g r)[k]? = some u) (h : ¬ (39 ≤ k ∧ k < 44)) : zVs u u := by
  rcases k with _|_|_|_|_|_|_|_|_|_|_|_|_|_|_|_|_|_|_|_|_|_|_|_|_|_|_|_|_|_|_|_|_|_|_|_|_|_|_|_|_|_|_|_|_|_|_|_|_|_|_|_|_|_|_|_|_|_|_|_|_|_|_|_|_|k
  all_goals first
    | (exfalso; omega)
    | (cases hk; done)
    | (cases hk; first | trivial | rfl)
/-- the object's numbers are put -/
theorem zSI.setM {w : zM} {m k : Nat} {g : Nat → Int32} {r : Nat → Value} {x v : Int32} (hw : w m = some (.inl (15, zMo m g r))) (hk : (zMo m g r)[k]? = some (.int x)) : zSI w (zup w m (.inl (15, (zMo m g r).set k (.int v)))) := by
  refine zSI.up hw ⟨rfl, (List.length_set).symm, fun j u y hu hy => ?_⟩
  rw [List.getElem?_set] at hy
  split at hy
  · next e =>
    subst e
    rw [hk] at hu
    cases hu
    split at hy
    · cases hy; exact Or.inl trivial
    · cases hy
  · rw [hu] at hy
    cases hy
    by_cases e : 39 ≤ j ∧ j < 44
    · exact Or.inr ⟨rfl, e⟩
    · exact Or.inl (zMo_ok hu e)
theorem zSI.setMv {w : zM} {m k : Nat} {g : Nat → Int32} {r : Nat → Value} {v : Value} (hw : w m = some (.inl (15, zMo m g r))) (hk : 39 ≤ k ∧ k < 44) : zSI w (zup w m (.inl (15, (zMo m g r).set k v))) := by
  refine zSI.up hw ⟨rfl, (List.length_set).symm, fun j u y hu hy => ?_⟩
  rw [List.getElem?_set] at hy
  split at hy
  · next e => subst e; exact Or.inr ⟨rfl, hk⟩
  · rw [hu] at hy
    cases hy
    by_cases e : 39 ≤ j ∧ j < 44
    · exact Or.inr ⟨rfl, e⟩
    · exact Or.inl (zMo_ok hu e)
