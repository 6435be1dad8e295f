/-! ===== the shire as numbers, the atlas of the class ===== -/
/-- a call whose contract is known -/
theorem gK {d y n : Nat} {s as rest : List zV} {m : zMm} {Q : Option zV → zMm → Prop} {k : List zV → zMm → Prop} (h : zC d y as m Q) (hs : s = as.reverse ++ rest) (hn : as.length = n) (hc : zcat rest ≤ 8) (hk : ∀ r m', Q r m' → k (r.toList ++ rest) m') : zcl (zEx d) y n s m k := zcl_of hs hn hc (zC_im h hk)
/-- V 0: 0 places, 1 has, 2 owes, 3 builds, 4 walk, 5 roads, 6 farmers, 7 post, 8 pace, 9 acts, 10 lines; V 1 roads, four numbers each; V 2 farmers, five each; V 3 acts -/
def vA (V : zMm) (r : Int) : Int := V 1 (4 * r)
def vB (V : zMm) (r : Int) : Int := V 1 (4 * r + 1)
def vM (V : zMm) (r : Int) : Int := V 1 (4 * r + 2)
def vT (V : zMm) (r : Int) : Int := V 1 (4 * r + 3)
def vF (V : zMm) (f i : Int) : Int := V 2 (5 * f + i)
/-- the weight of a road while the gates of s stand -/
def vW (V : zMm) (s r : Int) : Int := (if zbit s r = 1 then vT V r else 0) * 1024 + vM V r
def gOk (V : zMm) : Prop :=
  ((0 ≤ V 0 0 ∧ V 0 0 ≤ 6) ∧ (0 ≤ V 0 1 ∧ V 0 1 ≤ 9999) ∧ (0 ≤ V 0 2 ∧ V 0 2 ≤ 999) ∧ (0 ≤ V 0 3 ∧ V 0 3 ≤ 999) ∧ (0 ≤ V 0 4 ∧ V 0 4 ≤ 60) ∧ (0 ≤ V 0 5 ∧ V 0 5 ≤ 8) ∧ (0 ≤ V 0 6 ∧ V 0 6 ≤ 6) ∧ (0 ≤ V 0 7 ∧ V 0 7 ≤ 5 ∧ (0 < V 0 10 → V 0 7 < V 0 0)) ∧ (0 ≤ V 0 8 ∧ V 0 8 ≤ 60) ∧ (0 ≤ V 0 9 ∧ V 0 9 ≤ 40) ∧ (0 ≤ V 0 10 ∧ V 0 10 ≤ 900) ∧ (V 0 10 = 0 → V 0 0 = 0 ∧ V 0 5 = 0 ∧ V 0 6 = 0 ∧ V 0 9 = 0) ∧ (0 < V 0 10 → 2 ≤ V 0 0 ∧ 1 ≤ V 0 3)) ∧
  (∀ r, 0 ≤ r → r < V 0 5 → (0 ≤ vA V r ∧ vA V r < V 0 0) ∧ (0 ≤ vB V r ∧ vB V r < V 0 0) ∧ vA V r ≠ vB V r ∧ (1 ≤ vM V r ∧ vM V r ≤ 20) ∧ (0 ≤ vT V r ∧ vT V r ≤ 99)) ∧
  (∀ f, 0 ≤ f → f < V 0 6 → (0 ≤ vF V f 0 ∧ vF V f 0 < V 0 0) ∧ (0 ≤ vF V f 1 ∧ vF V f 1 < V 0 0) ∧ vF V f 0 ≠ vF V f 1 ∧ (0 ≤ vF V f 2 ∧ vF V f 2 ≤ 9) ∧ (0 ≤ vF V f 3 ∧ vF V f 3 ≤ 999) ∧ (0 ≤ vF V f 4 ∧ vF V f 4 ≤ 100))
def gFAR : Int := 268435456
/-- miles between places; weights between places while the gates of s stand, without road x -/
def gD (V : zMm) : Int → Int → Int := gF (gJ 268435456 (vA V) (vB V) (vM V) (fun _ => True) (V 0 5).toNat) (V 0 0).toNat
def gC (V : zMm) (s x : Int) : Int → Int → Int := gF (gJ 268435456 (vA V) (vB V) (vW V s) (fun r => r ≠ x) (V 0 5).toNat) (V 0 0).toNat
theorem vW_bd {V : zMm} (h : gOk V) {s r : Int} (h0 : 0 ≤ r) (h1 : r < V 0 5) : 1 ≤ vW V s r ∧ vW V s r ≤ 101396 := by
  have := h.2.1 r h0 h1
  unfold vW
  split <;> omega
theorem gD_cl {V : zMm} (h : gOk V) : gCl (V 0 0) (V 0 5) (vA V) (vB V) (vM V) (fun _ => True) 268435456 1280 (gD V) :=
  gCl_of (W := 20) (by have := h.1; omega) (by have := h.1; omega) (by decide) (by decide) (fun r hr => by have := h.2.1 r (by omega) hr; omega)
theorem gC_cl {V : zMm} (h : gOk V) (s x : Int) : gCl (V 0 0) (V 0 5) (vA V) (vB V) (vW V s) (fun r => r ≠ x) 268435456 6489344 (gC V s x) :=
  gCl_of (W := 101396) (by have := h.1; omega) (by have := h.1; omega) (by decide) (by decide) (fun r hr => by have := h.2.1 r (by omega) hr; have := vW_bd h (s := s) (r := r) (by omega) hr; omega)
theorem gC_bd {V : zMm} (h : gOk V) {s x p q : Int} : (0 ≤ gC V s x p q ∧ gC V s x p q ≤ 6489344) ∨ gC V s x p q = 268435456 := by
  have h1 := (gC_cl h s x).2.1 p q
  have h2 := (gC_cl h s x).2.2.2.2.2 p q
  omega
theorem gD_bd {V : zMm} (h : gOk V) {p q : Int} : (0 ≤ gD V p q ∧ gD V p q ≤ 1280) ∨ gD V p q = 268435456 := by
  have h1 := (gD_cl h).2.1 p q
  have h2 := (gD_cl h).2.2.2.2.2 p q
  omega
/-- what a farmer pays (-1: no way), what all pay -/
def gFa (V : zMm) (s f : Int) : Int := if 268435456 ≤ gC V s (-1) (vF V f 0) (vF V f 1) then -1 else gC V s (-1) (vF V f 0) (vF V f 1) / 1024 * vF V f 2
def gSm (g : Int → Int) : Nat → Int
  | 0 => 0
  | k + 1 => gSm g k + g k
def gTk (V : zMm) (s : Int) : Int := gSm (fun f => max 0 (gFa V s f)) (V 0 6).toNat
/-- the class's shire holds V -/
def gCV (V m : zMm) : Prop :=
  (m 21 0 = V 0 10 ∧ m 21 1 = V 0 0 ∧ m 21 2 = V 0 1 ∧ m 21 3 = V 0 2 ∧ m 21 4 = V 0 3 ∧ m 21 5 = V 0 4 ∧ m 21 6 = V 0 7 ∧ m 21 7 = V 0 8 ∧ m 21 8 = V 0 5 ∧ m 21 9 = V 0 6) ∧
  (∀ r, 0 ≤ r → r < V 0 5 → m (24 + r) 0 = vA V r ∧ m (24 + r) 1 = vB V r ∧ m (24 + r) 2 = vM V r ∧ m (24 + r) 3 = vT V r) ∧
  (∀ f, 0 ≤ f → f < V 0 6 → m (32 + f) 0 = vF V f 0 ∧ m (32 + f) 1 = vF V f 1 ∧ m (32 + f) 2 = vF V f 2 ∧ m (32 + f) 3 = vF V f 3 ∧ m (32 + f) 4 = vF V f 4)
/-- the table of weights that lies there -/
def gCo (V : zMm) (s x : Int) (m : zMm) : Prop := ∀ p q, 0 ≤ p → p < V 0 0 → 0 ≤ q → q < V 0 0 → m 39 (p * 6 + q) = gC V s x p q
/-- the atlas: the shire, miles, caches that tell no lie -/
def gA (V m : zMm) : Prop := gOk V ∧ gCV V m ∧ (∀ p q, 0 ≤ p → p < V 0 0 → 0 ≤ q → q < V 0 0 → m 38 (p * 6 + q) = gD V p q) ∧ (∀ s, 0 ≤ s → s < 256 → m 40 s = -1 ∨ m 40 s = gTk V s) ∧ (∀ s x, 0 ≤ s → s < 256 → -1 ≤ x → x < 8 → m 20 5 = s * 16 + x + 1 → gCo V s x m)
/-- alike but for what the atlas keeps for itself -/
def gE (m m' : zMm) : Prop := ∀ c i, c ≠ 39 ∧ c ≠ 40 ∧ c ≠ 41 ∧ c ≠ 20 → m' c i = m c i
theorem gE_r {m m' : zMm} (h : gE m m') {c i : Int} (h1 : c ≠ 39 ∧ c ≠ 40 ∧ c ≠ 41 ∧ c ≠ 20) : m' c i = m c i := h c i h1
theorem gE_refl {m : zMm} : gE m m := fun _ _ _ => rfl
theorem gE_tr {m m' m'' : zMm} (h1 : gE m m') (h2 : gE m' m'') : gE m m'' := fun c i h => by rw [h2 c i h, h1 c i h]
theorem gCV_of {V m m' : zMm} (h : gCV V m) (h1 : ∀ c i, 21 ≤ c → c < 38 → m' c i = m c i) (hk : gOk V) : gCV V m' := by
  have b := hk.1
  refine ⟨?_, fun r h2 h3 => ?_, fun f h2 h3 => ?_⟩
  · simp only [h1 21 _ (by decide) (by decide)]; exact h.1
  · simp only [h1 (24 + r) _ (by omega) (by omega)]; exact h.2.1 r h2 h3
  · simp only [h1 (32 + f) _ (by omega) (by omega)]; exact h.2.2 f h2 h3
theorem gA_0 {V m : zMm} (h : gCV V m) : m 21 0 = V 0 10 := h.1.1
theorem gA_1 {V m : zMm} (h : gCV V m) : m 21 1 = V 0 0 := h.1.2.1
theorem gA_2 {V m : zMm} (h : gCV V m) : m 21 2 = V 0 1 := h.1.2.2.1
theorem gA_3 {V m : zMm} (h : gCV V m) : m 21 3 = V 0 2 := h.1.2.2.2.1
theorem gA_4 {V m : zMm} (h : gCV V m) : m 21 4 = V 0 3 := h.1.2.2.2.2.1
theorem gA_5 {V m : zMm} (h : gCV V m) : m 21 5 = V 0 4 := h.1.2.2.2.2.2.1
theorem gA_6 {V m : zMm} (h : gCV V m) : m 21 6 = V 0 7 := h.1.2.2.2.2.2.2.1
theorem gA_7 {V m : zMm} (h : gCV V m) : m 21 7 = V 0 8 := h.1.2.2.2.2.2.2.2.1
theorem gA_8 {V m : zMm} (h : gCV V m) : m 21 8 = V 0 5 := h.1.2.2.2.2.2.2.2.2.1
theorem gA_9 {V m : zMm} (h : gCV V m) : m 21 9 = V 0 6 := h.1.2.2.2.2.2.2.2.2.2
theorem gA_r0 {V m : zMm} (h : gCV V m) {r : Int} (h0 : 0 ≤ r) (h1 : r < V 0 5) : m (24 + r) 0 = vA V r := (h.2.1 r h0 h1).1
theorem gA_r1 {V m : zMm} (h : gCV V m) {r : Int} (h0 : 0 ≤ r) (h1 : r < V 0 5) : m (24 + r) 1 = vB V r := (h.2.1 r h0 h1).2.1
theorem gA_r2 {V m : zMm} (h : gCV V m) {r : Int} (h0 : 0 ≤ r) (h1 : r < V 0 5) : m (24 + r) 2 = vM V r := (h.2.1 r h0 h1).2.2.1
theorem gA_r3 {V m : zMm} (h : gCV V m) {r : Int} (h0 : 0 ≤ r) (h1 : r < V 0 5) : m (24 + r) 3 = vT V r := (h.2.1 r h0 h1).2.2.2
theorem gA_f0 {V m : zMm} (h : gCV V m) {f : Int} (h0 : 0 ≤ f) (h1 : f < V 0 6) : m (32 + f) 0 = vF V f 0 := (h.2.2 f h0 h1).1
theorem gA_f1 {V m : zMm} (h : gCV V m) {f : Int} (h0 : 0 ≤ f) (h1 : f < V 0 6) : m (32 + f) 1 = vF V f 1 := (h.2.2 f h0 h1).2.1
theorem gA_f2 {V m : zMm} (h : gCV V m) {f : Int} (h0 : 0 ≤ f) (h1 : f < V 0 6) : m (32 + f) 2 = vF V f 2 := (h.2.2 f h0 h1).2.2.1
theorem gA_f3 {V m : zMm} (h : gCV V m) {f : Int} (h0 : 0 ≤ f) (h1 : f < V 0 6) : m (32 + f) 3 = vF V f 3 := (h.2.2 f h0 h1).2.2.2.1
theorem gA_f4 {V m : zMm} (h : gCV V m) {f : Int} (h0 : 0 ≤ f) (h1 : f < V 0 6) : m (32 + f) 4 = vF V f 4 := (h.2.2 f h0 h1).2.2.2.2
theorem gA_d {V m : zMm} (h : gA V m) {p q : Int} (h0 : 0 ≤ p) (h1 : p < V 0 0) (h2 : 0 ≤ q) (h3 : q < V 0 0) : m 38 (p * 6 + q) = gD V p q := h.2.2.1 p q h0 h1 h2 h3
theorem gA_b {V m : zMm} (h : gA V m) : (0 ≤ V 0 0 ∧ V 0 0 ≤ 6) ∧ (0 ≤ V 0 5 ∧ V 0 5 ≤ 8) ∧ (0 ≤ V 0 6 ∧ V 0 6 ≤ 6) := by have := h.1.1; omega
/-- what is alike in the atlas's own cells too keeps it -/
theorem gA_of {V m m' : zMm} (h : gA V m) (h1 : ∀ c i, 20 ≤ c → c < 41 → m' c i = m c i) : gA V m' := by
  refine ⟨h.1, gCV_of h.2.1 (fun c i a b => h1 c i (by omega) (by omega)) h.1, fun p q a b c e => ?_, fun s a b => ?_, fun s x a b c e f p q => ?_⟩
  · rw [h1 38 _ (by decide) (by decide)]; exact h.2.2.1 p q a b c e
  · rw [h1 40 _ (by decide) (by decide)]; exact h.2.2.2.1 s a b
  · rw [h1 20 _ (by decide) (by decide)] at f
    rw [h1 39 _ (by decide) (by decide)]; exact h.2.2.2.2 s x a b c e f p q
