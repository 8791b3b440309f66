/-- the world at its birth -/
def m0M : gM := (fun c => match c with
  | 1 => selG (fun _ => iI 0) (fun _ => iI 6) 0 20
  | 2 => selG (fun _ => iI 0) (fun i => iI (i / 2)) 0 20
  | 3 => selG (fun _ => iI 0) (fun i => iI (i / 2)) 0 20
  | 4 => selG (fun _ => iI 0) (fun _ => iI 6) 0 10
  | _ => fun _ => iI 0, fun c f => match c, f with
  | 0, 8 => iI 3
  | _, _ => 0)
def z0M : gM := (fun _ _ => iI 0, fun _ _ => 0)
def w0W : gW := fun j => match j with
  | 0 => z0M
  | 4 => (fun _ _ => iI 0, fun c f => match c, f with
    | 0, 0 => iI 5
    | 0, 1 => iI 6
    | 0, 2 => iI 7
    | 0, 3 => iI 8
    | _, _ => 0)
  | 9 => z0M
  | _ => m0M
theorem mossL (G : gG) (j : Nat) : ∀ c, c < 19 → (L_X3 G (bo j))[c]? = some (cM G j c (m0M.1 c) (m0M.2 c))
  | 0, _ => rfl
  | 1, _ => rfl
  | 2, _ => rfl
  | 3, _ => rfl
  | 4, _ => rfl
  | 5, _ => rfl
  | 6, _ => rfl
  | 7, _ => rfl
  | 8, _ => rfl
  | 9, _ => rfl
  | 10, _ => rfl
  | 11, _ => rfl
  | 12, _ => rfl
  | 13, _ => rfl
  | 14, _ => rfl
  | 15, _ => rfl
  | 16, _ => rfl
  | 17, _ => rfl
  | 18, _ => rfl
  | n + 19, h => absurd h (by omega)
theorem mossN (G : gG) (n : Nat) : (L_X3 G n).length = 19 := rfl
theorem textL (G : gG) : ∀ c, c < 4 → (L_X0 G 135)[c]? = some (ceX G 9 c ((w0W 9).1 c) ((w0W 9).2 c))
  | 0, _ => rfl
  | 1, _ => rfl
  | 2, _ => rfl
  | 3, _ => rfl
  | n + 4, h => absurd h (by omega)
def hd5 (G : gG) : va_E := .inr (5, [.ref (G.2.2 + 1), .ref (G.2.2 + 20), .ref (G.2.2 + 39), .ref (G.2.2 + 58), .ref (G.2.2 + 135), .int (iI 0)])
def hd2 (G : gG) : va_E := .inr (2, [.ref (G.2.2 + 59), .ref (G.2.2 + 78), .ref (G.2.2 + 97), .ref (G.2.2 + 116), .int 0])
theorem hd2L (G : gG) : ∀ c, c < 1 → [hd2 G][c]? = some (ceX G 4 c ((w0W 4).1 c) ((w0W 4).2 c))
  | 0, _ => rfl
  | n + 1, h => absurd h (by omega)
theorem birthL (G : gG) : L_X5 G 0 = [hd5 G] ++ (L_X3 G 1 ++ (L_X3 G 20 ++ (L_X3 G 39 ++ ([hd2 G] ++ (L_X3 G 59 ++ (L_X3 G 78 ++ (L_X3 G 97 ++ (L_X3 G 116 ++ L_X0 G 135)))))))) := by
  unfold L_X5 L_X2 hd5 hd2
  simp only [List.append_assoc, List.cons_append, List.nil_append, List.append_nil, Nat.zero_add, Nat.reduceAdd]
theorem apR {A B : List va_E} {a : Nat} (h : A.length = a) {i : Nat} {e : va_E} (he : B[i]? = some e) : (A ++ B)[a + i]? = some e := wgt h he
theorem apL {A B : List va_E} {i : Nat} {e : va_E} (he : A[i]? = some e) : (A ++ B)[i]? = some e := by
  rw [List.getElem?_append_left (List.getElem?_eq_some_iff.mp he).1]; exact he
theorem apK {A B : List va_E} {a k : Nat} (h : A.length = a) (hk : a ≤ k) {e : va_E} (he : B[k - a]? = some e) : (A ++ B)[k]? = some e := by
  have := apR h he
  rwa [show a + (k - a) = k by omega] at this
theorem birthM (G : gG) (j c : Nat) (h : j < 11 ∧ c < bs j) : (L_X5 G 0)[bo j + c]? = some (ceX G j c ((w0W j).1 c) ((w0W j).2 c)) := by
  rw [birthL]
  obtain ⟨hj, hc⟩ := h
  match j, hj, hc with
  | 0, _, hc =>
    have hc : c < 1 := hc
    obtain rfl : c = 0 := by omega
    exact apL rfl
  | 1, _, hc => exact apR (a := 1) rfl (apL (mossL G 1 c hc))
  | 2, _, hc => exact apK (a := 1) rfl (by show 1 ≤ 20 + c; omega) (apK (mossN _ _) (by show 19 ≤ 20 + c - 1; omega) (apL (by rw [show bo 2 + c - 1 - 19 = c by show 20 + c - 1 - 19 = c; omega]; exact mossL G 2 c hc)))
  | 3, _, hc => exact apK (a := 1) rfl (by show 1 ≤ 39 + c; omega) (apK (mossN _ _) (by show 19 ≤ 39 + c - 1; omega) (apK (mossN _ _) (by show 19 ≤ 39 + c - 1 - 19; omega) (apL (by rw [show bo 3 + c - 1 - 19 - 19 = c by show 39 + c - 1 - 19 - 19 = c; omega]; exact mossL G 3 c hc))))
  | 4, _, hc => exact apK (a := 1) rfl (by show 1 ≤ 58 + c; omega) (apK (mossN _ _) (by show 19 ≤ 58 + c - 1; omega) (apK (mossN _ _) (by show 19 ≤ 58 + c - 1 - 19; omega) (apK (mossN _ _) (by show 19 ≤ 58 + c - 1 - 19 - 19; omega) (apL (by rw [show bo 4 + c - 1 - 19 - 19 - 19 = c by show 58 + c - 1 - 19 - 19 - 19 = c; omega]; exact hd2L G c hc)))))
  | 5, _, hc => exact apK (a := 1) rfl (by show 1 ≤ 59 + c; omega) (apK (mossN _ _) (by show 19 ≤ 59 + c - 1; omega) (apK (mossN _ _) (by show 19 ≤ 59 + c - 1 - 19; omega) (apK (mossN _ _) (by show 19 ≤ 59 + c - 1 - 19 - 19; omega) (apK (a := 1) rfl (by show 1 ≤ 59 + c - 1 - 19 - 19 - 19; omega) (apL (by rw [show bo 5 + c - 1 - 19 - 19 - 19 - 1 = c by show 59 + c - 1 - 19 - 19 - 19 - 1 = c; omega]; exact mossL G 5 c hc))))))
  | 6, _, hc => exact apK (a := 1) rfl (by show 1 ≤ 78 + c; omega) (apK (mossN _ _) (by show 19 ≤ 78 + c - 1; omega) (apK (mossN _ _) (by show 19 ≤ 78 + c - 1 - 19; omega) (apK (mossN _ _) (by show 19 ≤ 78 + c - 1 - 19 - 19; omega) (apK (a := 1) rfl (by show 1 ≤ 78 + c - 1 - 19 - 19 - 19; omega) (apK (mossN _ _) (by show 19 ≤ 78 + c - 1 - 19 - 19 - 19 - 1; omega) (apL (by rw [show bo 6 + c - 1 - 19 - 19 - 19 - 1 - 19 = c by show 78 + c - 1 - 19 - 19 - 19 - 1 - 19 = c; omega]; exact mossL G 6 c hc)))))))
  | 7, _, hc => exact apK (a := 1) rfl (by show 1 ≤ 97 + c; omega) (apK (mossN _ _) (by show 19 ≤ 97 + c - 1; omega) (apK (mossN _ _) (by show 19 ≤ 97 + c - 1 - 19; omega) (apK (mossN _ _) (by show 19 ≤ 97 + c - 1 - 19 - 19; omega) (apK (a := 1) rfl (by show 1 ≤ 97 + c - 1 - 19 - 19 - 19; omega) (apK (mossN _ _) (by show 19 ≤ 97 + c - 1 - 19 - 19 - 19 - 1; omega) (apK (mossN _ _) (by show 19 ≤ 97 + c - 1 - 19 - 19 - 19 - 1 - 19; omega) (apL (by rw [show bo 7 + c - 1 - 19 - 19 - 19 - 1 - 19 - 19 = c by show 97 + c - 1 - 19 - 19 - 19 - 1 - 19 - 19 = c; omega]; exact mossL G 7 c hc))))))))
  | 8, _, hc => exact apK (a := 1) rfl (by show 1 ≤ 116 + c; omega) (apK (mossN _ _) (by show 19 ≤ 116 + c - 1; omega) (apK (mossN _ _) (by show 19 ≤ 116 + c - 1 - 19; omega) (apK (mossN _ _) (by show 19 ≤ 116 + c - 1 - 19 - 19; omega) (apK (a := 1) rfl (by show 1 ≤ 116 + c - 1 - 19 - 19 - 19; omega) (apK (mossN _ _) (by show 19 ≤ 116 + c - 1 - 19 - 19 - 19 - 1; omega) (apK (mossN _ _) (by show 19 ≤ 116 + c - 1 - 19 - 19 - 19 - 1 - 19; omega) (apK (mossN _ _) (by show 19 ≤ 116 + c - 1 - 19 - 19 - 19 - 1 - 19 - 19; omega) (apL (by rw [show bo 8 + c - 1 - 19 - 19 - 19 - 1 - 19 - 19 - 19 = c by show 116 + c - 1 - 19 - 19 - 19 - 1 - 19 - 19 - 19 = c; omega]; exact mossL G 8 c hc)))))))))
  | 9, _, hc => exact apK (a := 1) rfl (by show 1 ≤ 135 + c; omega) (apK (mossN _ _) (by show 19 ≤ 135 + c - 1; omega) (apK (mossN _ _) (by show 19 ≤ 135 + c - 1 - 19; omega) (apK (mossN _ _) (by show 19 ≤ 135 + c - 1 - 19 - 19; omega) (apK (a := 1) rfl (by show 1 ≤ 135 + c - 1 - 19 - 19 - 19; omega) (apK (mossN _ _) (by show 19 ≤ 135 + c - 1 - 19 - 19 - 19 - 1; omega) (apK (mossN _ _) (by show 19 ≤ 135 + c - 1 - 19 - 19 - 19 - 1 - 19; omega) (apK (mossN _ _) (by show 19 ≤ 135 + c - 1 - 19 - 19 - 19 - 1 - 19 - 19; omega) (apK (mossN _ _) (by show 19 ≤ 135 + c - 1 - 19 - 19 - 19 - 1 - 19 - 19 - 19; omega) (by rw [show bo 9 + c - 1 - 19 - 19 - 19 - 1 - 19 - 19 - 19 - 19 = c by show 135 + c - 1 - 19 - 19 - 19 - 1 - 19 - 19 - 19 - 19 = c; omega]; exact textL G c hc)))))))))
  | 10, _, hc => exact absurd hc (Nat.not_lt_zero c)
  | n + 11, h, _ => exact absurd h (by omega)
theorem birthP {G : gG} {H : Heap} (h : va_P G.1 vwCl (wl G.2.2 (L_X5 G 0)) H) : va_P G.1 vwCl (WL G w0W) H := by
  intro k q hk
  have hlt : k < 139 := by
    have := (List.getElem?_eq_some_iff.mp hk).1
    rwa [WL_len] at this
  obtain ⟨g1, g2, g3⟩ := bo_bj k hlt
  have e1 := WL_get G w0W (j := bj k) (c := k - bo (bj k)) ⟨g2, g3⟩
  have e2 := wl_at (b := G.2.2) (birthM G (bj k) (k - bo (bj k)) ⟨g2, g3⟩)
  rw [g1] at e1 e2
  rw [hk] at e1
  have e3 : q = _ := Option.some.inj e1
  rw [e3]
  have e4 := h k _ e2
  unfold ad
  rw [g1]
  exact e4
