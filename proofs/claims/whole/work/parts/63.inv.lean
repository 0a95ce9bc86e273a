/-! PURE SIDE, THE INVARIANT: class and reference hold the same pictures, shift, charts, noise, spots, days -/
def IG (w h : Nat) (xf mf : Nat → Int32) : Prop := ∀ x y : Nat, x < w → y < h → ∃ v : Int, 0 ≤ v ∧ v ≤ 255 ∧ xf (y * w + x) = zI v ∧ mf (24 * y + x) = zI v
def IS (ra rd ma md : Int32) : Prop := ∃ a d : Int, -3 ≤ a ∧ a ≤ 3 ∧ -3 ≤ d ∧ d ≤ 3 ∧ ra = zI a ∧ rd = zI d ∧ ma = zI a ∧ md = zI d
def INf (fl mfl : Int32) : Prop := ∃ f : Int, 0 ≤ f ∧ f ≤ 255 ∧ fl = zI f ∧ mfl = zI f
def INr (w h : Nat) (le gr lo hi : Nat → Int32) : Prop := ∀ x y : Nat, x < w → y < h → (le (y * w + x) = zI (-1) ∧ gr (y * w + x) = zI (-1) ∧ lo (24 * y + x) = zI 999 ∧ hi (24 * y + x) = zI (-1)) ∨ ∃ p q : Int, 0 ≤ p ∧ p ≤ q ∧ q ≤ 255 ∧ le (y * w + x) = zI p ∧ gr (y * w + x) = zI q ∧ lo (24 * y + x) = zI p ∧ hi (24 * y + x) = zI q
/-- places: row by row in both -/
theorem g_lt {w h x y : Nat} (hx : x < w) (hy : y < h) : y * w + x < w * h := by
  have h1 : y * w + w ≤ h * w := by
    have := Nat.mul_le_mul_right w (show y + 1 ≤ h by omega)
    rw [Nat.add_mul] at this
    omega
  have := Nat.mul_comm h w
  omega
theorem g_inj {w x y x' y' : Nat} (hx : x < w) (hx' : x' < w) (e : y * w + x = y' * w + x') : x = x' ∧ y = y' := by
  have e1 : (y * w + x) / w = y := by rw [Nat.mul_comm, Nat.mul_add_div (by omega), Nat.div_eq_of_lt hx]; rfl
  have e2 : (y' * w + x') / w = y' := by rw [Nat.mul_comm, Nat.mul_add_div (by omega), Nat.div_eq_of_lt hx']; rfl
  have : y = y' := by rw [← e1, ← e2, e]
  subst this
  exact ⟨by omega, rfl⟩
theorem g_wh {w h : Nat} (hw : w ≤ 24) (hh : h ≤ 24) : w * h ≤ 576 := Nat.le_trans (Nat.mul_le_mul hw hh) (by decide)
/-- a cell by its coordinates -/
theorem g_xy {w h : Nat} {a b : Int} (hi : inG w h a b) : ∃ x y : Nat, a = x ∧ b = y ∧ x < w ∧ y < h := by
  unfold inG at hi
  exact ⟨a.toNat, b.toNat, by omega, by omega, by omega, by omega⟩
theorem g_up {w h x y : Nat} {xf mf : Nat → Int32} (hw : w ≤ 24) (hF : IG w h xf mf) (hx : x < w) (hy : y < h) {v : Int} (v1 : 0 ≤ v) (v2 : v ≤ 255) : IG w h (upd xf (y * w + x) (zI v)) (upd mf (24 * y + x) (zI v)) := by
  intro x' y' hx' hy'
  by_cases e : x' = x ∧ y' = y
  · obtain ⟨rfl, rfl⟩ := e
    exact ⟨v, v1, v2, pk_us, pk_us⟩
  · obtain ⟨u, h1, h2, h3, h4⟩ := hF x' y' hx' hy'
    refine ⟨u, h1, h2, ?_, ?_⟩
    · rw [pk_un (fun q => e (g_inj hx' hx q))]; exact h3
    · rw [pk_un (fun q => e ⟨by omega, by omega⟩)]; exact h4
theorem z_pl (w x y : Nat) : zI (y : Int) * zI (w : Int) + zI (x : Int) = zI ((y * w + x : Nat) : Int) := by
  rw [zI_mul, zI_add]; congr 1
theorem z_pm (x y : Nat) : zI 24 * zI (y : Int) + zI (x : Int) = zI ((24 * y + x : Nat) : Int) := by
  rw [zI_mul, zI_add]; congr 1
/-- the end of a case of the law: what was thrown agrees, and the answer where nothing was -/
theorem fin_l {α : Type} {A B C : Option α} {k r : Int32} {out : Nat → Int64} (hv : k = 0 → out 0 = r.toInt64) :
    (if k = k then (if k = 0 then pu_gd (vp_in 0 1) (if lg_cmp (out (0 : Int32).toNatClampNeg) r.toInt64 = 0 then A else B) else A) else C) = A := by
  rw [if_pos rfl]
  by_cases h : k = 0
  · rw [if_pos h, pu_gt (by unfold vp_in; decide), if_pos ((lg_cmp_eq _ _).mpr (by rw [show (0 : Int32).toNatClampNeg = 0 from rfl]; exact hv h))]
  · rw [if_neg h]
theorem fin_J {α : Type} {A B C : Option α} {k : Int32} {r : Int64} {out : Nat → Int64} (hv : k = 0 → out 0 = r) :
    (if k = k then (if k = 0 then pu_gd (vp_in 0 1) (if lg_cmp (out (0 : Int32).toNatClampNeg) r = 0 then A else B) else A) else C) = A := by
  rw [if_pos rfl]
  by_cases h : k = 0
  · rw [if_pos h, pu_gt (by unfold vp_in; decide), if_pos ((lg_cmp_eq _ _).mpr (by rw [show (0 : Int32).toNatClampNeg = 0 from rfl]; exact hv h))]
  · rw [if_neg h]
theorem up0 (f : Nat → Int64) (v : Int64) : vp_updL f (0 : Int32).toNatClampNeg v 0 = v := pk_uLs
section AG
variable {th re wi fl ac dn ma sp da : Int32} {su my ab be : Int64} {w h : Nat}
theorem q_goes (v1 v2 v3 : Int32) : p_Mod_goes v1 v2 v3 th (zI w) (zI h) re wi fl ac dn su my ab be ma sp da = some (if v1 = 0 then (0, 1) else if v2 = 0 then (0, 2) else if v3 = 0 then (0, 3) else (1, 0)) := by
  unfold p_Mod_goes
  split
  · rfl
  · split
    · rfl
    · split <;> rfl
/-- cell: both answer and throw alike, the pictures stay alike -/
theorem a_cell (hw : w ≤ 24) (hh : h ≤ 24) (j a2 a3 a4 : Int32) {xf xl mf ml : Nat → Int32} {out : Nat → Int64} (hF : IG w h xf mf) (hG : IG w h xl ml) :
    ∃ (k : Int32) (xf' xl' : Nat → Int32) (out' : Nat → Int64) (r : Int32) (mf' ml' : Nat → Int32), p_Law_cell0 j a2 a3 a4 (zI w) (zI h) (w * h) xf (w * h) xl 1 out = some (k, xf', xl', out') ∧ p_Mod_cell j a2 a3 a4 th (zI w) (zI h) re wi fl ac dn su my ab be ma sp da 576 mf 576 ml = some (r, k, mf', ml') ∧ (k = 0 → out' 0 = r.toInt64) ∧ IG w h xf' mf' ∧ IG w h xl' ml' := by
  obtain ⟨a, rfl, a1, b1⟩ := zI_of a2
  obtain ⟨b, rfl, a2, b2⟩ := zI_of a3
  obtain ⟨v, rfl, a3, b3⟩ := zI_of a4
  obtain ⟨c1, c2⟩ := q_needCell hw hh a1 b1 a2 b2
  obtain ⟨d1, d2⟩ := q_needValue a3 b3
  obtain ⟨e1, e2⟩ := @q_isCell th re wi fl ac dn ma sp da su my ab be w h hw hh a b a1 b1 a2 b2
  obtain ⟨f1, f2⟩ := q_within (lo := 0) (hi := 255) a3 b3 (by omega) (by omega) (by omega) (by omega)
  rw [← zl0, ← zl255] at f1 f2
  unfold p_Law_cell0 p_Pic_cell p_Mod_cell
  by_cases hi : inG w h a b
  · rw [c1 hi, e1 hi]
    simp only [Option.bind_some]
    by_cases hv : 0 ≤ v ∧ v ≤ 255
    · rw [d1 hv, f1 hv]
      simp only [Option.bind_some, q_goes]
      obtain ⟨x, y, rfl, rfl, hx, hy⟩ := g_xy hi
      have hlt := g_lt hx hy
      have hwh := g_wh hw hh
      unfold p_Pic_placeOf
      rw [zl24, z_pl, z_pm]
      have i1 : vp_in (zI ((y * w + x : Nat) : Int)) (w * h) := (zI_in (by omega) (by omega)).mpr ⟨by omega, by omega⟩
      have i2 : vp_in (zI ((24 * y + x : Nat) : Int)) 576 := (zI_in (by omega) (by omega)).mpr ⟨by omega, by omega⟩
      have n1 : (zI ((y * w + x : Nat) : Int)).toNatClampNeg = y * w + x := by rw [zI_cl (by omega) (by omega)]; omega
      have n2 : (zI ((24 * y + x : Nat) : Int)).toNatClampNeg = 24 * y + x := by rw [zI_cl (by omega) (by omega)]; omega
      obtain ⟨u1, u2, u3, u4, u5⟩ := hF x y hx hy
      obtain ⟨w1, w2, w3, w4, w5⟩ := hG x y hx hy
      by_cases hj : j = 0
      · simp only [hj, if_true, Option.bind_some, pu_gt i1, pu_gt i2, n1, n2, pu_gt (show vp_in 0 1 by unfold vp_in; decide)]
        exact ⟨_, _, _, _, _, _, _, rfl, rfl, fun _ => by rw [up0, u4, u5], g_up hw hF hx hy hv.1 hv.2, hG⟩
      · simp only [hj, if_false, Option.bind_some, pu_gt i1, pu_gt i2, n1, n2, pu_gt (show vp_in 0 1 by unfold vp_in; decide)]
        exact ⟨_, _, _, _, _, _, _, rfl, rfl, fun _ => by rw [up0, w4, w5], hF, g_up hw hG hx hy hv.1 hv.2⟩
    · rw [d2 hv, f2 hv]
      simp only [Option.bind_some, q_goes]
      exact ⟨2, xf, xl, out, 0, mf, ml, rfl, rfl, fun q => absurd q (by decide), hF, hG⟩
  · rw [c2 hi, e2 hi]
    simp only [Option.bind_some]
    obtain ⟨z, hz⟩ : ∃ z, p_Mod_within (zI v) 0 255 = some z := by
      by_cases hv : 0 ≤ v ∧ v ≤ 255
      · exact ⟨_, f1 hv⟩
      · exact ⟨_, f2 hv⟩
    rw [hz]
    simp only [Option.bind_some, q_goes]
    exact ⟨1, xf, xl, out, 0, mf, ml, rfl, rfl, fun q => absurd q (by decide), hF, hG⟩
end AG
