/-! the history: its four fields hold the numbers of four blocks -/
def hst (w : gW) (b0 b1 b2 b3 : Nat) : Prop := gN (w 4) 0 0 = (b0 : Int) ∧ gN (w 4) 0 1 = (b1 : Int) ∧ gN (w 4) 0 2 = (b2 : Int) ∧ gN (w 4) 0 3 = (b3 : Int)
def p4 (b0 b1 b2 b3 : Nat) : Prop := (5 ≤ b0 ∧ b0 ≤ 8) ∧ (5 ≤ b1 ∧ b1 ≤ 8) ∧ (5 ≤ b2 ∧ b2 ≤ 8) ∧ (5 ≤ b3 ∧ b3 ≤ 8) ∧ ¬ b0 = b1 ∧ ¬ b0 = b2 ∧ ¬ b0 = b3 ∧ ¬ b1 = b2 ∧ ¬ b1 = b3 ∧ ¬ b2 = b3
theorem ms_b {b : Nat} (h : 5 ≤ b ∧ b ≤ 8) : ms b := by unfold ms; omega
theorem hb_of {M : gM} {k b : Nat} (h : gN M 0 k = (b : Int)) : hb (M.2 0) k = b := by
  unfold hb
  rw [show (M.2 0 k).toInt = (b : Int) from h]
  rfl
theorem up_over (w : gW) (a b : Nat) (A B M : gM) : up (up (up w a A) b M) a B = up (up w b M) a B := by
  funext q
  simp only [up]
  by_cases h1 : q = a
  · simp [h1]
  · by_cases h2 : q = b
    · simp [h1, h2]
    · simp [h1, h2]
theorem iI_nat {b : Nat} (h : b < 11) : (iI (b : Int)).toInt = (b : Int) := iI_t ⟨by omega, by omega⟩
def recM (M : gM) (b0 b1 b2 b3 : Nat) : gM := sS (sS (sS (sS (sS M 0 3 (iI b2)) 0 2 (iI b1)) 0 1 (iI b0)) 0 0 (iI b3)) 0 4 (iI (min 4 (gN M 0 4 + 1)))
def tbM (M : gM) (b0 b1 b2 b3 : Nat) : gM := sS (sS (sS (sS (sS M 0 0 (iI b1)) 0 1 (iI b2)) 0 2 (iI b3)) 0 3 (iI b0)) 0 4 (iI (gN M 0 4 - 1))
section RPH
variable {p : Program} {l : Launch} {e : Env} {R : Room} {s : State} {m : MethodId} {args : Array Value} {below : List Frame} {meth : Method} {c : Code} {H : Heap} {locs : List Loc} {cells slots : Nat} {Q : State → Prop}
variable {cc : ByteArray} {pc : Nat} {ls : Array Slot} {rest : List Value} {G : gG} {w : gW} {y : MethodName} {nL : Nat} {ret : Option FieldType}
theorem r_pH (C0 : cx p s m args meth c y cc nL ret) (hW : wo G w s H locs) {k index b : Nat} (hk : k < 4) (hb9 : b < 11) (hlink : Cond.fieldLink RX2 index "PeatBanks$History" (TX2 k).2.1 (TX2 k).2.2.1 ∈ wsG) (ho : RX2 = y.cls) (hdg : decode cc pc = .ok (.putfield index, 3))
    (kk : ∀ (H1 : Heap) (locs1 : List Loc), wo G (up w 4 (sS (w 4) 0 k (iI (b : Int)))) s H1 locs1 → W p l e R s m args below meth c H1 locs1 cells slots Q (F0 m (pc + 3) ls rest)) : W p l e R s m args below meth c H locs cells slots Q (F0 m pc ls (.ref (ad G b 0) :: .ref (ad G 4 0) :: rest)) := by
  have hxx := C0.hx
  have hbb := C0.hb
  have hts := C0.fix.2.2.2.2
  have hown := C0.fix.2.2.2.1
  have hj : 4 < 11 ∧ 0 < bs 4 := ⟨by decide, by decide⟩
  have hbk : ∀ F : Nat → Int32, F k = iI (b : Int) → hb F k = b := fun F h => by
    unfold hb
    rw [h, iI_nat hb9]
    rfl
  have hcl : vwCl[2]? = some (RX2, TX2, 5) := rfl
  have hd : ∃ ty, parseFieldDescriptor (TX2 k).2.2.1 = some ty ∧ ty = .object "PeatBanks$Moss" ∧ (TX2 k).1 = "PeatBanks$History" ∧ (TX2 k).2.2.2 = false := by
    match k, hk with
    | 0, _ => exact ⟨_, tyX2_ok 0 (by decide), rfl, rfl, rfl⟩
    | 1, _ => exact ⟨_, tyX2_ok 1 (by decide), rfl, rfl, rfl⟩
    | 2, _ => exact ⟨_, tyX2_ok 2 (by decide), rfl, rfl, rfl⟩
    | 3, _ => exact ⟨_, tyX2_ok 3 (by decide), rfl, rfl, rfl⟩
    | j + 4, h => exact absurd h (by omega)
  obtain ⟨ty, hd, hty, hfr, hfin⟩ := hd
  rw [← ho] at hown
  refine va_put hxx hbb hts (fun w hw => wU_in (hiX2 w hw)) tyX2 tyX2_ok nmX2 hown hW.2.1 hW.1 (WL_D G w) hW.2.2 (bo 4 + 0) (fs := [.ref (ad G (hb ((w 4).2 0) 0) 0), .ref (ad G (hb ((w 4).2 0) 1) 0), .ref (ad G (hb ((w 4).2 0) 2) 0), .ref (ad G (hb ((w 4).2 0) 3) 0), .int ((w 4).2 0 4)]) (WL_get G w hj) hcl k (by omega) (hts _ (wU_in hlink)) (fun _ h9 => by rw [← hfr]; exact h9) hfin hd (by rw [hty]; rfl) (by rw [hty]; rfl) (by show k < 5; omega) hdg (fun H1 locs1 hP _ hS => kk H1 locs1 ?_)
  have he2 : ceX G 4 0 ((w 4).1 0) (fun f' => if f' = k then iI (b : Int) else (w 4).2 0 f') = .inr (2, [.ref (ad G (hb ((w 4).2 0) 0) 0), .ref (ad G (hb ((w 4).2 0) 1) 0), .ref (ad G (hb ((w 4).2 0) 2) 0), .ref (ad G (hb ((w 4).2 0) 3) 0), .int ((w 4).2 0 4)].set k (.ref (ad G b 0))) := by
    have hs := hbk (fun f' => if f' = k then iI (b : Int) else (w 4).2 0 f') (by simp)
    match k, hk, hs with
    | 0, _, hs => exact congrArg (fun q : Nat => (Sum.inr (2, [Value.ref (ad G q 0), Value.ref (ad G (hb ((w 4).2 0) 1) 0), Value.ref (ad G (hb ((w 4).2 0) 2) 0), Value.ref (ad G (hb ((w 4).2 0) 3) 0), Value.int ((w 4).2 0 4)]) : va_E)) hs
    | 1, _, hs => exact congrArg (fun q : Nat => (Sum.inr (2, [Value.ref (ad G (hb ((w 4).2 0) 0) 0), Value.ref (ad G q 0), Value.ref (ad G (hb ((w 4).2 0) 2) 0), Value.ref (ad G (hb ((w 4).2 0) 3) 0), Value.int ((w 4).2 0 4)]) : va_E)) hs
    | 2, _, hs => exact congrArg (fun q : Nat => (Sum.inr (2, [Value.ref (ad G (hb ((w 4).2 0) 0) 0), Value.ref (ad G (hb ((w 4).2 0) 1) 0), Value.ref (ad G q 0), Value.ref (ad G (hb ((w 4).2 0) 3) 0), Value.int ((w 4).2 0 4)]) : va_E)) hs
    | 3, _, hs => exact congrArg (fun q : Nat => (Sum.inr (2, [Value.ref (ad G (hb ((w 4).2 0) 0) 0), Value.ref (ad G (hb ((w 4).2 0) 1) 0), Value.ref (ad G (hb ((w 4).2 0) 2) 0), Value.ref (ad G q 0), Value.int ((w 4).2 0 4)]) : va_E)) hs
    | j + 4, h, _ => exact absurd h (by omega)
  have h := wo_set hj hW.2.1 he2 hP hS
  rwa [sC_S] at h
end RPH
/-! the text -/
def isL (ch : Int) : Prop := ch = 115 ∨ ch = 99 ∨ ch = 114
def isDg (ch : Int) : Prop := 48 ≤ ch ∧ ch ≤ 57
def wOf (ch : Int) : Int := if ch = 115 then 0 else if ch = 99 then 1 else 2
def opnG (M : gM) (wt : Int) : gM := sS (sA (sA M 2 (gN M 0 4) (iI wt)) 3 (gN M 0 4) (iI 1)) 0 4 (iI (gN M 0 4 + 1))
def appM (M : gM) (ch : Int) : gM := sS (sA M 1 (gN M 0 1) (iI ch)) 0 1 (iI (gN M 0 1 + 1))
/-- the reader behind n characters: the block, and the number that is being read -/
noncomputable def rgs (M : gM) : Nat → gM × Int
  | 0 => (sS M 0 4 (iI 0), 0)
  | n + 1 => @ite _ (isL (gA M 1 n)) (Classical.propDecidable _) (opnG (rgs M n).1 (wOf (gA M 1 n)), 0) (sA (rgs M n).1 3 (gN (rgs M n).1 0 4 - 1) (iI ((rgs M n).2 * 10 + (gA M 1 n - 48))), (rgs M n).2 * 10 + (gA M 1 n - 48))
theorem rgs_s (M : gM) (n : Nat) : rgs M (n + 1) = @ite _ (isL (gA M 1 n)) (Classical.propDecidable _) (opnG (rgs M n).1 (wOf (gA M 1 n)), 0) (sA (rgs M n).1 3 (gN (rgs M n).1 0 4 - 1) (iI ((rgs M n).2 * 10 + (gA M 1 n - 48))), (rgs M n).2 * 10 + (gA M 1 n - 48)) := rfl
noncomputable def rgW (M : gM) (x : Int) : gM := (rgs M x.toNat).1
noncomputable def rgN (M : gM) (x : Int) : Int := (rgs M x.toNat).2
/-- the character at x is allowed there -/
def rgO (M : gM) (x : Int) : Prop := (isL (gA M 1 x) ∧ ¬ rgN M x = 1) ∨ (¬ isL (gA M 1 x) ∧ isDg (gA M 1 x) ∧ 0 < gN (rgW M x) 0 4 ∧ ¬ rgN M x * 10 + (gA M 1 x - 48) = 0 ∧ rgN M x * 10 + (gA M 1 x - 48) ≤ 60)
theorem rg_L {M : gM} {x : Int} (h : 0 ≤ x) (hL : isL (gA M 1 x)) : rgW M (x + 1) = opnG (rgW M x) (wOf (gA M 1 x)) ∧ rgN M (x + 1) = 0 := by
  unfold rgW rgN
  rw [toNat_s h, rgs_s, Int.toNat_of_nonneg h, @if_pos _ (Classical.propDecidable _) hL]
  exact ⟨rfl, rfl⟩
theorem rg_D {M : gM} {x : Int} (h : 0 ≤ x) (hL : ¬ isL (gA M 1 x)) : rgW M (x + 1) = sA (rgW M x) 3 (gN (rgW M x) 0 4 - 1) (iI (rgN M x * 10 + (gA M 1 x - 48))) ∧ rgN M (x + 1) = rgN M x * 10 + (gA M 1 x - 48) := by
  unfold rgW rgN
  rw [toNat_s h, rgs_s, Int.toNat_of_nonneg h, @if_neg _ (Classical.propDecidable _) hL]
  exact ⟨rfl, rfl⟩
theorem rg_0 (M : gM) : rgW M 0 = sS M 0 4 (iI 0) ∧ rgN M 0 = 0 := ⟨rfl, rfl⟩
theorem rg_keep (M : gM) : ∀ n : Nat, (rgs M n).1.1 1 = M.1 1 ∧ (rgs M n).1.2 0 1 = M.2 0 1
  | 0 => ⟨rfl, rfl⟩
  | n + 1 => by
    obtain ⟨h1, h2⟩ := rg_keep M n
    rw [rgs_s]
    by_cases hL : isL (gA M 1 n)
    · rw [@if_pos _ (Classical.propDecidable _) hL]; exact ⟨h1, h2⟩
    · rw [@if_neg _ (Classical.propDecidable _) hL]; exact ⟨h1, h2⟩
theorem rgW_1 (M : gM) (x : Int) : (rgW M x).1 1 = M.1 1 := (rg_keep M x.toNat).1
theorem rgW_len (M : gM) (x : Int) : gN (rgW M x) 0 1 = gN M 0 1 := congrArg Int32.toInt (rg_keep M x.toNat).2
theorem rgW_ch (M : gM) (x q : Int) : gA (rgW M x) 1 q = gA M 1 q := by unfold gA; rw [rgW_1]
theorem gN_opnG (M : gM) (wt : Int) (h : 0 ≤ gN M 0 4 ∧ gN M 0 4 ≤ 60) : gN (opnG M wt) 0 4 = gN M 0 4 + 1 := iI_t (z := gN M 0 4 + 1) ⟨by omega, by omega⟩
theorem rg_stepL {M : gM} {x : Int} (h : 0 ≤ x) (hx : x ≤ 60) (hL : isL (gA M 1 x)) (hn : ¬ rgN M x = 1) (hg : 0 ≤ gN (rgW M x) 0 4 ∧ gN (rgW M x) 0 4 ≤ x) (ho : ∀ q : Int, 0 ≤ q → q < x → rgO M q) : rgN M (x + 1) = 0 ∧ (0 ≤ gN (rgW M (x + 1)) 0 4 ∧ gN (rgW M (x + 1)) 0 4 ≤ x + 1) ∧ (∀ q : Int, 0 ≤ q → q < x + 1 → rgO M q) ∧ rgW M (x + 1) = opnG (rgW M x) (wOf (gA M 1 x)) := by
  obtain ⟨h1, h2⟩ := rg_L h hL
  have e := gN_opnG (rgW M x) (wOf (gA M 1 x)) ⟨by omega, by omega⟩
  refine ⟨h2, by rw [h1, e]; omega, fun q q0 q1 => ?_, h1⟩
  rcases (show q < x ∨ q = x by omega) with c | c
  · exact ho q q0 c
  · rw [c]; exact Or.inl ⟨hL, hn⟩
theorem rg_stepD {M : gM} {x : Int} (h : 0 ≤ x) (hL : ¬ isL (gA M 1 x)) (hd : isDg (gA M 1 x)) (hg0 : 0 < gN (rgW M x) 0 4) (hz : ¬ rgN M x * 10 + (gA M 1 x - 48) = 0) (h60 : rgN M x * 10 + (gA M 1 x - 48) ≤ 60) (hg : 0 ≤ gN (rgW M x) 0 4 ∧ gN (rgW M x) 0 4 ≤ x) (ho : ∀ q : Int, 0 ≤ q → q < x → rgO M q) : rgN M (x + 1) = rgN M x * 10 + (gA M 1 x - 48) ∧ (0 ≤ gN (rgW M (x + 1)) 0 4 ∧ gN (rgW M (x + 1)) 0 4 ≤ x + 1) ∧ (∀ q : Int, 0 ≤ q → q < x + 1 → rgO M q) ∧ rgW M (x + 1) = sA (rgW M x) 3 (gN (rgW M x) 0 4 - 1) (iI (rgN M x * 10 + (gA M 1 x - 48))) := by
  obtain ⟨h1, h2⟩ := rg_D h hL
  refine ⟨h2, by rw [h1]; show 0 ≤ gN (rgW M x) 0 4 ∧ gN (rgW M x) 0 4 ≤ x + 1; omega, fun q q0 q1 => ?_, h1⟩
  rcases (show q < x ∨ q = x by omega) with c | c
  · exact ho q q0 c
  · rw [c]; exact Or.inr ⟨hL, hd, hg0, hz, h60⟩
theorem ms_1 : ms 1 := Or.inl rfl
theorem ms_2 : ms 2 := Or.inr (Or.inl rfl)
theorem ms_3 : ms 3 := Or.inr (Or.inr (Or.inl rfl))
