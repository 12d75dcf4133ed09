/-! FRESH STATES, EXACTLY: the reference -/
def zfw (σ : zSt) (K o a b : Nat) (f : Nat → Int32) : zSt := (fun x j => if x = K ∧ o + a ≤ j ∧ j < o + b then f (j - o) else σ.1 x j, σ.2)
theorem zfw_nil {σ : zSt} {K o b : Nat} {f : Nat → Int32} : zfw σ K o b b f = σ := by
  refine Prod.ext (funext fun x => funext fun j => ?_) rfl
  exact if_neg (fun h => by omega)
theorem zfw_cons {σ : zSt} {K o a b : Nat} {f : Nat → Int32} (h : a < b) : zfw (zsi σ K (o + a) (f a)) K o (a + 1) b f = zfw σ K o a b f := by
  refine Prod.ext (funext fun x => funext fun j => ?_) rfl
  show (if x = K ∧ o + (a + 1) ≤ j ∧ j < o + b then f (j - o) else (zsi σ K (o + a) (f a)).1 x j) = (if x = K ∧ o + a ≤ j ∧ j < o + b then f (j - o) else σ.1 x j)
  rw [zsi_at]
  by_cases h1 : x = K ∧ o + (a + 1) ≤ j ∧ j < o + b
  · rw [if_pos h1, if_pos ⟨h1.1, by omega, h1.2.2⟩]
  · rw [if_neg h1]
    by_cases h2 : x = K ∧ j = o + a
    · rw [if_pos h2, if_pos ⟨h2.1, by omega, by omega⟩, show j - o = a by omega]
    · rw [if_neg h2, if_neg (fun h3 => ?_)]
      rcases h3 with ⟨h4, h5, h6⟩
      by_cases h7 : j = o + a
      · exact h2 ⟨h4, h7⟩
      · exact h1 ⟨h4, by omega, h6⟩
theorem zfw_at {σ : zSt} {K o a b x j : Nat} {f : Nat → Int32} : (zfw σ K o a b f).1 x j = if x = K ∧ o + a ≤ j ∧ j < o + b then f (j - o) else σ.1 x j := rfl
theorem z_x1 {x : Int32} {a : Nat} (h : x.toInt = a) (hb : a < 100000) : (x + 1).toInt = ((a + 1 : Nat) : Int) := by
  have c1 : (1 : Int32).toInt = 1 := rfl
  have t : (x + 1).toInt = x.toInt + (1 : Int32).toInt := z_tadd (a := 0) (b := 100000) ⟨by omega, by omega⟩ (zr_c (lo := 1) (hi := 1) (x := 1) (by decide)) (by decide)
  omega
theorem z_floop {g : Nat → zSt → Int32 → Option zSt} {E : zSt → Option zSt} {K o b : Nat} {f : Nat → Int32} (hb : b < 100000)
    (hg : ∀ (n : Nat) (σ : zSt) (x : Int32) (a : Nat), x.toInt = (a : Int) → a < b → g (n + 1) σ x = g n (zsi σ K (o + a) (f a)) (x + 1))
    (he : ∀ (n : Nat) (σ : zSt) (x : Int32), x.toInt = (b : Int) → g (n + 1) σ x = E σ) : ∀ (n : Nat) (σ : zSt) (x : Int32) (a : Nat), x.toInt = (a : Int) → a ≤ b → b - a < n → g n σ x = E (zfw σ K o a b f) := by
  intro n
  induction n with
  | zero => intro σ x a _ _ h; exact absurd h (by omega)
  | succ n ih =>
    intro σ x a hx ha hn
    by_cases q : a = b
    · subst q
      rw [he n σ x hx, zfw_nil]
    · have ha' : a < b := by omega
      rw [hg n σ x a hx ha', ih _ _ (a + 1) (z_x1 hx (by omega)) (by omega) (by omega), zfw_cons ha']
theorem z_ge {B x : Int32} {b : Nat} (hB : B.toInt = b) (h : x.toInt = b) : B ≤ x := Int32.le_iff_toInt_le.mpr (by omega)
theorem z_lt9 {B x : Int32} {a b : Nat} (hB : B.toInt = b) (h : x.toInt = a) (l : a < b) : ¬ B ≤ x := fun q => by
  have := Int32.le_iff_toInt_le.mp q
  omega
theorem z_cl {x : Int32} {a : Nat} (h : x.toInt = a) : x.toNatClampNeg = a := by
  have := z_clamp (x := x) (by omega)
  omega
theorem z_zin {x : Int32} {a R : Nat} (h : x.toInt = a) (l : a < R) : zin x R = true := zin_ok (lo := a) (hi := a) ⟨by omega, by omega⟩ (by omega)
theorem zck_zbv {γ α : Type} {b : Bool} {x : γ} {f : γ → Option α} {r : Option α} (hb : b = true) (h : f x = r) : zck b (zbv x f) = r := by
  subst hb
  exact h
theorem x_anew2 (σ : zSt) : fX12_anew_2 zfuel σ 0 = fX12_anew_24 zfuel (zfw σ 3 0 0 42 (fun _ => 0)) 47 := by
  refine z_floop (g := fX12_anew_2) (E := fun s => fX12_anew_24 zfuel s 47) (K := 3) (o := 0) (b := 42) (by decide) (fun n σ x a hx ha => ?_) (fun n σ x hx => ?_) zfuel σ 0 0 rfl (by decide) (by decide)
  · show fX12_anew_2_body (fX12_anew_2 n) σ x = _
    unfold fX12_anew_2_body
    rw [if_neg (z_lt9 (B := 42) rfl hx ha), z_zin hx (by omega), z_cl hx, Nat.zero_add]
    rfl
  · show fX12_anew_2_body (fX12_anew_2 n) σ x = _
    unfold fX12_anew_2_body
    rw [if_pos (z_ge (B := 42) rfl hx)]
theorem x_anew24 (σ : zSt) (h : σ.1 0 7 = 0) : fX12_anew_24 zfuel σ 47 = fX12_anew_131 zfuel (zsi (zsi (zsi (zsi (zsi (zsi (zsi (zsi (zfw σ 3 0 47 87 (fun _ => 0)) 3 18 57328) 3 30 1) 3 31 2) 3 33 255) 3 34 255) 3 37 127) 3 38 255) 3 40 255) 0 := by
  have l := z_floop (g := fX12_anew_24) (E := fun s => fX12_anew_24_body (fX12_anew_24 0) s 87) (K := 3) (o := 0) (b := 87) (f := fun _ => 0) (by decide) (fun n σ x a hx ha => ?_) (fun n σ x hx => ?_) zfuel σ 47 47 rfl (by decide) (by decide)
  · rw [l]
    show fX12_anew_24_body (fX12_anew_24 0) (zfw σ 3 0 47 87 (fun _ => 0)) 87 = _
    have e : (zfw σ 3 0 47 87 (fun _ => 0)).1 0 7 = 0 := h
    unfold fX12_anew_24_body
    rw [if_pos (by decide)]
    show (if zgi (zsi (zsi (zfw σ 3 0 47 87 (fun _ => 0)) 3 18 57328) 3 30 1) 0 7 = 2 then fX12_anew_79 (zsi (zsi (zfw σ 3 0 47 87 (fun _ => 0)) 3 18 57328) 3 30 1) 0 31 else fX12_anew_79 (zsi (zsi (zfw σ 3 0 47 87 (fun _ => 0)) 3 18 57328) 3 30 1) 2 31) = _
    rw [if_neg (show ¬ zgi (zsi (zsi (zfw σ 3 0 47 87 (fun _ => 0)) 3 18 57328) 3 30 1) 0 7 = 2 from fun r => absurd (e.symm.trans r) (by decide))]
    unfold fX12_anew_79
    exact zck_zbv rfl (zck_zbv rfl (zck_zbv rfl (zck_zbv rfl (zck_zbv rfl (zck_zbv rfl rfl)))))
  · show fX12_anew_24_body (fX12_anew_24 n) σ x = _
    unfold fX12_anew_24_body
    rw [if_neg (z_lt9 (B := 87) rfl hx ha), z_zin hx (by omega), z_cl hx, Nat.zero_add]
    rfl
  · have ex : x = 87 := Int32.toInt_inj.mp (by rw [hx]; rfl)
    subst ex
    rfl
theorem x_anew131 (σ : zSt) : fX12_anew_131 zfuel σ 0 = fX12_anew_165 zfuel (zsi (zfw σ 3 78 0 4 (fun _ => 15)) 3 85 32768) 98 := by
  refine z_floop (g := fX12_anew_131) (E := fun s => fX12_anew_165 zfuel (zsi s 3 85 32768) 98) (K := 3) (o := 78) (b := 4) (by decide) (fun n σ x a hx ha => ?_) (fun n σ x hx => ?_) zfuel σ 0 0 rfl (by decide) (by decide)
  · show fX12_anew_131_body (fX12_anew_131 n) σ x = _
    unfold fX12_anew_131_body
    have c : (78 : Int32).toInt = 78 := rfl
    have t : (78 + x).toInt = (78 : Int32).toInt + x.toInt := z_tadd (zr_c (lo := 78) (hi := 78) (by decide)) (c := 0) (d := 4) ⟨by omega, by omega⟩ (by decide)
    have t2 : (78 + x).toInt = ((78 + a : Nat) : Int) := by omega
    rw [if_neg (z_lt9 (B := 4) rfl hx ha), z_zin t2 (by omega), z_cl t2]
    rfl
  · show fX12_anew_131_body (fX12_anew_131 n) σ x = _
    unfold fX12_anew_131_body
    rw [if_pos (z_ge (B := 4) rfl hx)]
    exact zck_zbv rfl rfl
theorem x_anew165 (σ : zSt) : fX12_anew_165 zfuel σ 98 = fX12_anew_196 zfuel (zsi (zfw σ 3 0 98 166 (fun _ => 0)) 3 164 1) 0 := by
  refine z_floop (g := fX12_anew_165) (E := fun s => fX12_anew_196 zfuel (zsi s 3 164 1) 0) (K := 3) (o := 0) (b := 166) (by decide) (fun n σ x a hx ha => ?_) (fun n σ x hx => ?_) zfuel σ 98 98 rfl (by decide) (by decide)
  · show fX12_anew_165_body (fX12_anew_165 n) σ x = _
    unfold fX12_anew_165_body
    rw [if_neg (z_lt9 (B := 166) rfl hx ha), z_zin hx (by omega), z_cl hx, Nat.zero_add]
    rfl
  · show fX12_anew_165_body (fX12_anew_165 n) σ x = _
    unfold fX12_anew_165_body
    rw [if_pos (z_ge (B := 166) rfl hx)]
    exact zck_zbv rfl rfl
def zop (a : Nat) : Int32 := if a % 6 = 0 then 127 else if a % 6 = 1 then 4 else 0
theorem x_anew196 (σ : zSt) : fX12_anew_196 zfuel σ 0 = fX12_anew_245 zfuel (zfw σ 3 172 0 108 zop) 0 := by
  refine z_floop (g := fX12_anew_196) (E := fun s => fX12_anew_245 zfuel s 0) (K := 3) (o := 172) (b := 108) (by decide) (fun n σ x a hx ha => ?_) (fun n σ x hx => ?_) zfuel σ 0 0 rfl (by decide) (by decide)
  · show fX12_anew_196_body (fX12_anew_196 n) σ x = _
    unfold fX12_anew_196_body
    have c : (172 : Int32).toInt = 172 := rfl
    have t : (172 + x).toInt = (172 : Int32).toInt + x.toInt := z_tadd (zr_c (lo := 172) (hi := 172) (by decide)) (c := 0) (d := 108) ⟨by omega, by omega⟩ (by decide)
    have t2 : (172 + x).toInt = ((172 + a : Nat) : Int) := by omega
    have r := z_trem (y := (6 : Int32)) 6 rfl (x := x) (a := 0) (b := 108) ⟨by omega, by omega⟩ (by decide)
    have e0 : zrem x 6 = 0 ↔ a % 6 = 0 := by
      constructor
      · intro q; rw [q] at r; have : (0 : Int32).toInt = 0 := rfl; omega
      · intro q; exact Int32.toInt_inj.mp (by rw [r]; show x.toInt % 6 = 0; omega)
    have e1 : zrem x 6 = 1 ↔ a % 6 = 1 := by
      constructor
      · intro q; rw [q] at r; have : (1 : Int32).toInt = 1 := rfl; omega
      · intro q; exact Int32.toInt_inj.mp (by rw [r]; show x.toInt % 6 = 1; omega)
    have go : ∀ v : Int32, fX12_anew_236 (fX12_anew_196 n) σ x v (172 + x) = fX12_anew_196 n (zsi σ 3 (172 + a) v) (x + 1) := fun v => by
      unfold fX12_anew_236
      rw [z_zin t2 (by omega), z_cl t2]
      rfl
    rw [if_neg (z_lt9 (B := 108) rfl hx ha)]
    show (if zrem x 6 = 0 then fX12_anew_236 (fX12_anew_196 n) σ x 127 (172 + x) else (if zrem x 6 = 1 then fX12_anew_236 (fX12_anew_196 n) σ x 4 (172 + x) else fX12_anew_236 (fX12_anew_196 n) σ x 0 (172 + x))) = _
    unfold zop
    by_cases q0 : a % 6 = 0
    · rw [if_pos (e0.mpr q0), if_pos q0, go]
    · rw [if_neg (fun q => q0 (e0.mp q)), if_neg q0]
      by_cases q1 : a % 6 = 1
      · rw [if_pos (e1.mpr q1), if_pos q1, go]
      · rw [if_neg (fun q => q1 (e1.mp q)), if_neg q1, go]
  · show fX12_anew_196_body (fX12_anew_196 n) σ x = _
    unfold fX12_anew_196_body
    rw [if_pos (z_ge (B := 108) rfl hx)]
theorem x_anew245 (σ : zSt) : fX12_anew_245 zfuel σ 0 = fX12_anew_267 zfuel (zfw σ 7 0 0 16384 (fun _ => 0)) 0 := by
  refine z_floop (g := fX12_anew_245) (E := fun s => fX12_anew_267 zfuel s 0) (K := 7) (o := 0) (b := 16384) (by decide) (fun n σ x a hx ha => ?_) (fun n σ x hx => ?_) zfuel σ 0 0 rfl (by decide) (by decide)
  · show fX12_anew_245_body (fX12_anew_245 n) σ x = _
    unfold fX12_anew_245_body
    rw [if_neg (z_lt9 (B := 16384) rfl hx ha), z_zin hx (by omega), z_cl hx, Nat.zero_add]
    rfl
  · show fX12_anew_245_body (fX12_anew_245 n) σ x = _
    unfold fX12_anew_245_body
    rw [if_pos (z_ge (B := 16384) rfl hx)]
theorem x_anew267 (σ : zSt) : fX12_anew_267 zfuel σ 0 = some (zfw σ 8 0 0 64 (fun _ => 0)) := by
  refine z_floop (g := fX12_anew_267) (E := fun s => some s) (K := 8) (o := 0) (b := 64) (by decide) (fun n σ x a hx ha => ?_) (fun n σ x hx => ?_) zfuel σ 0 0 rfl (by decide) (by decide)
  · show fX12_anew_267_body (fX12_anew_267 n) σ x = _
    unfold fX12_anew_267_body
    rw [if_neg (z_lt9 (B := 64) rfl hx ha), z_zin hx (by omega), z_cl hx, Nat.zero_add]
    rfl
  · show fX12_anew_267_body (fX12_anew_267 n) σ x = _
    unfold fX12_anew_267_body
    rw [if_pos (z_ge (B := 64) rfl hx)]
/-- anew with no paging, exactly -/
def zAn (σ : zSt) : zSt := zfw (zfw (zfw (zsi (zfw (zsi (zfw (zsi (zsi (zsi (zsi (zsi (zsi (zsi (zsi (zfw (zfw σ 3 0 0 42 (fun _ => 0)) 3 0 47 87 (fun _ => 0)) 3 18 57328) 3 30 1) 3 31 2) 3 33 255) 3 34 255) 3 37 127) 3 38 255) 3 40 255) 3 78 0 4 (fun _ => 15)) 3 85 32768) 3 0 98 166 (fun _ => 0)) 3 164 1) 3 172 0 108 zop) 7 0 0 16384 (fun _ => 0)) 8 0 0 64 (fun _ => 0)
theorem x_anew {σ : zSt} (h : σ.1 0 7 = 0) : fX12_anew σ = some (zAn σ) := by
  show fX12_anew_2 zfuel σ 0 = _
  rw [x_anew2, x_anew24 _ (show (zfw σ 3 0 0 42 (fun _ => 0)).1 0 7 = 0 from h), x_anew131, x_anew165, x_anew196, x_anew245, x_anew267]
  rfl
/-- the reference's fresh state -/
def zFM (k : Int32) : zSt := zAn (zsi (zsi (zsi (zsi (zsi zS0 0 8 (-1)) 0 3 k) 3 44 0) 3 45 1) 3 46 1)
theorem x_freshM (k : Int32) : fX12_anew (zsi (zsi (zsi (zsi (zsi zS0 0 8 (-1)) 0 3 k) 3 44 0) 3 45 1) 3 46 1) = some (zFM k) := x_anew rfl
