/-! The reference's 'solves', as functions. -/
def uv (UN : Nat → Int32) (v : Nat) : Int32 := if v = 10 then 0 else UN v
theorem uv_10 {UN : Nat → Int32} {v : Nat} (h : v = 10) : uv UN v = 0 := by rw [uv, if_pos h]
theorem uv_n {UN : Nat → Int32} {v : Nat} (h : v < 10) : uv UN v = UN v := by rw [uv, if_neg (by omega)]
def sdN (x : Int32) (a : Nat) : Prop := (a = 10 ∧ x = -1) ∨ (a < 10 ∧ x = nI a)
theorem n_nn {a : Nat} (h : a < 10) : (0 : Int32) ≤ nI a := (nI_leI (a := 0) (by decide) (by omega)).mpr (Nat.zero_le _)
theorem sd_no {x : Int32} {a : Nat} (h : sdN x a) (hn : ¬ 0 ≤ x) : a = 10 := by
  rcases h with z | z
  · exact z.1
  · exact absurd (by rw [z.2]; exact n_nn z.1) hn
theorem sd_yes {x : Int32} {a : Nat} (h : sdN x a) (hn : 0 ≤ x) : a < 10 ∧ x = nI a := by
  rcases h with z | z
  · rw [z.2] at hn; exact absurd hn (by decide)
  · exact z
def psm (lo hi : Nat → Nat) (AA CO : Nat → Int32) : Nat → Nat → (Nat → Int32) → Int32 → Int32 × (Nat → Int32) × Int32
  | _, 0, UN, b => (1, UN, b)
  | i, m + 1, UN, b =>
    if CO i = 0 then psm lo hi AA CO (i + 1) m UN b
    else if hi i = 10 then (if uv UN (lo i) + AA i ≤ 0 then psm lo hi AA CO (i + 1) m UN b else (0, UN, b))
    else if uv UN (lo i) + AA i ≤ 200 then (if uv UN (lo i) + AA i ≤ UN (hi i) then psm lo hi AA CO (i + 1) m UN b else psm lo hi AA CO (i + 1) m (upd UN (hi i) (uv UN (lo i) + AA i)) 1)
    else (0, UN, b)
section PSM
variable {lo hi : Nat → Nat} {AA CO : Nat → Int32} {i m : Nat} {UN : Nat → Int32} {b : Int32}
theorem psm_0 (h : CO i = 0) : psm lo hi AA CO i (m + 1) UN b = psm lo hi AA CO (i + 1) m UN b := by rw [psm, if_pos h]
theorem psm_n (h : ¬ CO i = 0) (h1 : hi i = 10) (h2 : uv UN (lo i) + AA i ≤ 0) : psm lo hi AA CO i (m + 1) UN b = psm lo hi AA CO (i + 1) m UN b := by rw [psm, if_neg h, if_pos h1, if_pos h2]
theorem psm_nf (h : ¬ CO i = 0) (h1 : hi i = 10) (h2 : ¬ uv UN (lo i) + AA i ≤ 0) : psm lo hi AA CO i (m + 1) UN b = (0, UN, b) := by rw [psm, if_neg h, if_pos h1, if_neg h2]
theorem psm_f (h : ¬ CO i = 0) (h1 : hi i < 10) (h2 : ¬ uv UN (lo i) + AA i ≤ 200) : psm lo hi AA CO i (m + 1) UN b = (0, UN, b) := by rw [psm, if_neg h, if_neg (by omega), if_neg h2]
theorem psm_1 (h : ¬ CO i = 0) (h1 : hi i < 10) (h2 : uv UN (lo i) + AA i ≤ 200) (h3 : uv UN (lo i) + AA i ≤ UN (hi i)) : psm lo hi AA CO i (m + 1) UN b = psm lo hi AA CO (i + 1) m UN b := by rw [psm, if_neg h, if_neg (by omega), if_pos h2, if_pos h3]
theorem psm_2 (h : ¬ CO i = 0) (h1 : hi i < 10) (h2 : uv UN (lo i) + AA i ≤ 200) (h3 : ¬ uv UN (lo i) + AA i ≤ UN (hi i)) : psm lo hi AA CO i (m + 1) UN b = psm lo hi AA CO (i + 1) m (upd UN (hi i) (uv UN (lo i) + AA i)) 1 := by rw [psm, if_neg h, if_neg (by omega), if_pos h2, if_neg h3]
end PSM
/-- rounds, until none moves: it ends -/
def trm (lo hi : Nat → Nat) (AA CO : Nat → Int32) (cnt : Nat) : Nat → (Nat → Int32) → Prop
  | 0, _ => False
  | q + 1, UN => (psm lo hi AA CO 0 cnt UN 0).1 = 1 → ¬ (psm lo hi AA CO 0 cnt UN 0).2.2 = 0 → trm lo hi AA CO cnt q (psm lo hi AA CO 0 cnt UN 0).2.1
def mrd (lo hi : Nat → Nat) (AA CO : Nat → Int32) (cnt : Nat) : Nat → (Nat → Int32) → Int32 × (Nat → Int32)
  | 0, UN => (0, UN)
  | q + 1, UN => if (psm lo hi AA CO 0 cnt UN 0).1 = 0 then (0, (psm lo hi AA CO 0 cnt UN 0).2.1) else if (psm lo hi AA CO 0 cnt UN 0).2.2 = 0 then (1, (psm lo hi AA CO 0 cnt UN 0).2.1) else mrd lo hi AA CO cnt q (psm lo hi AA CO 0 cnt UN 0).2.1
theorem mrd_f {lo hi : Nat → Nat} {AA CO : Nat → Int32} {cnt q : Nat} {UN UN' : Nat → Int32} {b : Int32} (h : (psm lo hi AA CO 0 cnt UN 0) = (0, UN', b)) : mrd lo hi AA CO cnt (q + 1) UN = (0, UN') := by rw [mrd, h, if_pos rfl]
theorem mrd_t {lo hi : Nat → Nat} {AA CO : Nat → Int32} {cnt q : Nat} {UN UN' : Nat → Int32} {b : Int32} (h : (psm lo hi AA CO 0 cnt UN 0) = (1, UN', b)) (hb : b = 0) : mrd lo hi AA CO cnt (q + 1) UN = (1, UN') := by rw [mrd, h, if_neg (show ¬ (1 : Int32) = 0 by decide), if_pos hb]
theorem mrd_s {lo hi : Nat → Nat} {AA CO : Nat → Int32} {cnt q : Nat} {UN UN' : Nat → Int32} {b : Int32} (h : (psm lo hi AA CO 0 cnt UN 0) = (1, UN', b)) (hb : ¬ b = 0) : mrd lo hi AA CO cnt (q + 1) UN = mrd lo hi AA CO cnt q UN' := by rw [mrd, h, if_neg (show ¬ (1 : Int32) = 0 by decide), if_neg hb]
theorem trm_s {lo hi : Nat → Nat} {AA CO : Nat → Int32} {cnt q : Nat} {UN UN' : Nat → Int32} {b : Int32} (ht : trm lo hi AA CO cnt (q + 1) UN) (h : (psm lo hi AA CO 0 cnt UN 0) = (1, UN', b)) (hb : ¬ b = 0) : trm lo hi AA CO cnt q UN' := by
  have := ht (by rw [h]) (by rw [h]; exact hb)
  rw [h] at this; exact this
/-- what 'solves' answers -/
def slv (lo hi : Nat → Nat) (AA CO : Nat → Int32) (cnt : Nat) (UN : Nat → Int32) : Int32 × (Nat → Int32) := mrd lo hi AA CO cnt 2001 (fl 10 0 UN)
/-- the clash, from need i - 1 down -/
def kcm (lo hi : Nat → Nat) (AA : Nat → Int32) (cnt : Nat) : Nat → (Nat → Int32) → (Nat → Int32) → (Nat → Int32) × (Nat → Int32)
  | 0, CO, UN => (CO, UN)
  | i + 1, CO, UN => kcm lo hi AA cnt i (upd (upd CO i 0) i (slv lo hi AA (upd CO i 0) cnt UN).1) (slv lo hi AA (upd CO i 0) cnt UN).2
theorem mrd_b {lo hi : Nat → Nat} {AA CO : Nat → Int32} {cnt : Nat} : ∀ (q : Nat) (UN : Nat → Int32), (mrd lo hi AA CO cnt q UN).1 = 0 ∨ (mrd lo hi AA CO cnt q UN).1 = 1
  | 0, _ => Or.inl rfl
  | q + 1, UN => by
    rw [mrd]
    split
    · exact Or.inl rfl
    · split
      · exact Or.inr rfl
      · exact mrd_b q _
theorem slv_b {lo hi : Nat → Nat} {AA CO : Nat → Int32} {cnt : Nat} {UN : Nat → Int32} : (slv lo hi AA CO cnt UN).1 = 0 ∨ (slv lo hi AA CO cnt UN).1 = 1 := mrd_b _ _
