/-! SEARCHES of the reference: states as its numbers -/
theorem itr_cg {α : Type} {f g : Nat → α → α} : ∀ m i s, (∀ k, i ≤ k → k < i + m → f k = g k) → itr f m i s = itr g m i s := by
  intro m
  induction m with
  | zero => intro i s _; rfl
  | succ m ih =>
    intro i s h
    rw [itr_s, itr_s, h i (Nat.le_refl _) (by omega)]
    exact ih _ _ (fun k h1 h2 => h k (by omega) (by omega))
theorem itr_snoc {α : Type} (f : Nat → α → α) : ∀ m i s, itr f (m + 1) i s = f (i + m) (itr f m i s) := by
  intro m
  induction m with
  | zero => intro i s; rfl
  | succ m ih =>
    intro i s
    rw [itr_s, ih, itr_s, show i + 1 + m = i + (m + 1) by omega]
def rhM (c : Nat) (F M : Nat → Nat) (G : Nat) : Nat := itr (fun g v => (v * (c + 1) + F g) * (c + 1) + M g) G 0 0
def rhP (G : Nat) (P : Nat → Nat) (K b : Nat) : Nat := itr (fun k v => v * (G + 1) + P k) K 0 b
def rhF (c G K : Nat) (F M P : Nat → Nat) : Nat := rhP G P K (rhM c F M G)
def stM (c G : Nat) : Nat := itr (fun _ v => v * ((c + 1) * (c + 1))) G 0 1
def stQ (G K b : Nat) : Nat := itr (fun _ v => v * (G + 1)) K 0 b
def stG (c G K : Nat) : Nat := stQ G K (stM c G)
theorem rhM_s (c : Nat) (F M : Nat → Nat) (G : Nat) : rhM c F M (G + 1) = (rhM c F M G * (c + 1) + F G) * (c + 1) + M G := by
  unfold rhM; rw [itr_snoc, Nat.zero_add]
theorem rhP_s (G : Nat) (P : Nat → Nat) (K b : Nat) : rhP G P (K + 1) b = rhP G P K b * (G + 1) + P K := by
  unfold rhP; rw [itr_snoc, Nat.zero_add]
theorem stM_s (c G : Nat) : stM c (G + 1) = stM c G * ((c + 1) * (c + 1)) := by
  unfold stM; rw [itr_snoc]
theorem stQ_s (G K b : Nat) : stQ G (K + 1) b = stQ G K b * (G + 1) := by
  unfold stQ; rw [itr_snoc]
theorem mul_lt {v V n a : Nat} (h : v < V) (ha : a < n) : v * n + a < V * n := by
  have : (v + 1) * n ≤ V * n := Nat.mul_le_mul_right n h
  rw [Nat.succ_mul] at this; omega
theorem rhM_lt {c : Nat} {F M : Nat → Nat} : ∀ G, (∀ g, g < G → F g ≤ c ∧ M g ≤ c) → rhM c F M G < stM c G := by
  intro G
  induction G with
  | zero => intro _; exact Nat.one_pos
  | succ G ih =>
    intro h
    rw [rhM_s, stM_s, ← Nat.mul_assoc]
    have q := h G (by omega)
    exact mul_lt (mul_lt (ih (fun g hg => h g (by omega))) (by omega)) (by omega)
theorem rhP_lt {G b B : Nat} {P : Nat → Nat} (hb : b < B) : ∀ K, (∀ k, k < K → P k ≤ G) → rhP G P K b < stQ G K B := by
  intro K
  induction K with
  | zero => intro _; exact hb
  | succ K ih =>
    intro h
    rw [rhP_s, stQ_s]
    have q := h K (by omega)
    exact mul_lt (ih (fun k hk => h k (by omega))) (by omega)
theorem rhF_lt {c G K : Nat} {F M P : Nat → Nat} (h1 : ∀ g, g < G → F g ≤ c ∧ M g ≤ c) (h2 : ∀ k, k < K → P k ≤ G) : rhF c G K F M P < stG c G K := rhP_lt (rhM_lt G h1) K h2
theorem eu {n v w a b : Nat} (ha : a < n) (hb : b < n) (e : v * n + a = w * n + b) : v = w ∧ a = b := by
  have h1 : (v * n + a) % n = a := by rw [Nat.add_comm, Nat.add_mul_mod_self_right]; exact Nat.mod_eq_of_lt ha
  have h2 : (w * n + b) % n = b := by rw [Nat.add_comm, Nat.add_mul_mod_self_right]; exact Nat.mod_eq_of_lt hb
  have h3 : a = b := by rw [← h1, ← h2, e]
  subst h3
  have h4 : v * n = w * n := by omega
  exact ⟨Nat.eq_of_mul_eq_mul_right (by omega) h4, rfl⟩
theorem rhP_inj {G b b' : Nat} {P P' : Nat → Nat} : ∀ K, (∀ k, k < K → P k ≤ G ∧ P' k ≤ G) → rhP G P K b = rhP G P' K b' → b = b' ∧ ∀ k, k < K → P k = P' k := by
  intro K
  induction K with
  | zero => intro _ e; exact ⟨e, fun k hk => absurd hk (Nat.not_lt_zero _)⟩
  | succ K ih =>
    intro h e
    rw [rhP_s, rhP_s] at e
    have q := h K (by omega)
    obtain ⟨e1, e2⟩ := eu (by omega) (by omega) e
    obtain ⟨i1, i2⟩ := ih (fun k hk => h k (by omega)) e1
    refine ⟨i1, fun k hk => ?_⟩
    by_cases w : k = K
    · rw [w]; exact e2
    · exact i2 k (by omega)
theorem rhM_inj {c : Nat} {F M F' M' : Nat → Nat} : ∀ G, (∀ g, g < G → F g ≤ c ∧ M g ≤ c ∧ F' g ≤ c ∧ M' g ≤ c) → rhM c F M G = rhM c F' M' G → ∀ g, g < G → F g = F' g ∧ M g = M' g := by
  intro G
  induction G with
  | zero => intro _ e g hg; exact absurd hg (Nat.not_lt_zero _)
  | succ G ih =>
    intro h e
    rw [rhM_s, rhM_s] at e
    have q := h G (by omega)
    obtain ⟨e1, e2⟩ := eu (by omega) (by omega) e
    obtain ⟨e3, e4⟩ := eu (by omega) (by omega) e1
    intro g hg
    by_cases w : g = G
    · rw [w]; exact ⟨e4, e2⟩
    · exact ih (fun k hk => h k (by omega)) e3 g (by omega)
/-- the number of a state -/
def rho (y : YS) (s : Nat) : Nat := rhF (Yc y) (Yg y) (Yn y) (fun u => (uq (dg s u)).1) (fun u => (uq (dg s u)).2) (plc s)
def rcY (y : YS) : Nat := rhF (Yc y) (Yg y) (Yn y) (YF y) (YM y) (YP y)
def sts (y : YS) : Nat := stG (Yc y) (Yg y) (Yn y)
theorem sts_le {y : YS} (ok : YOK y) (h3 : Yg y ≤ 3) (n3 : Yn y ≤ 3) : sts y ≤ 262144 ∧ sts y ∈ szs := by
  obtain ⟨⟨o2, o3⟩, o6, on, og, oc⟩ := id ok
  unfold sts
  generalize Yc y = c at *
  generalize Yg y = G at *
  generalize Yn y = K at *
  have a : c = 2 ∨ c = 3 := by omega
  have b : G = 0 ∨ G = 1 ∨ G = 2 ∨ G = 3 := by omega
  have e : K = 0 ∨ K = 1 ∨ K = 2 ∨ K = 3 := by omega
  rcases a with rfl | rfl <;> rcases b with rfl | rfl | rfl | rfl <;> rcases e with rfl | rfl | rfl | rfl <;> decide
theorem rho_lt {y : YS} (h3 : Yg y ≤ 3) (n3 : Yn y ≤ 3) {s : Nat} (v : VN y s) : rho y s < sts y := rhF_lt (fun g hg => (v.2.1 g (by omega)).1 hg) (fun k hk => (v.2.2 k (by omega)).1 hk)
theorem rho_inj {y : YS} (h3 : Yg y ≤ 3) (n3 : Yn y ≤ 3) {s t : Nat} (v : VN y s) (w : VN y t) (e : rho y s = rho y t) : s = t := by
  obtain ⟨e1, e2⟩ := rhP_inj (Yn y) (fun k hk => ⟨(v.2.2 k (by omega)).1 hk, (w.2.2 k (by omega)).1 hk⟩) e
  have e3 := rhM_inj (Yg y) (fun g hg => ⟨((v.2.1 g (by omega)).1 hg).1, ((v.2.1 g (by omega)).1 hg).2, ((w.2.1 g (by omega)).1 hg).1, ((w.2.1 g (by omega)).1 hg).2⟩) e1
  refine s_inj v.1 w.1 (fun u hu => ?_) (fun k hk => ?_)
  · by_cases h : u < Yg y
    · have := e3 u h
      rw [← pk_uq (dg s u), ← pk_uq (dg t u)]
      unfold pk
      rw [this.1, this.2]
    · rw [(v.2.1 u hu).2 (by omega), (w.2.1 u hu).2 (by omega)]
  · by_cases h : k < Yn y
    · exact e2 k h
    · rw [(v.2.2 k hk).2 (by omega), (w.2.2 k hk).2 (by omega)]
/-- the same yard but for memories, places and counts -/
def ST (y Y : YS) : Prop := Yc Y = Yc y ∧ Yg Y = Yg y ∧ Yn Y = Yn y ∧ YK Y = YK y ∧ YA Y = YA y ∧ YU Y = YU y ∧ YC Y = YC y
def RY (y : YS) (s : Nat) (Y : YS) : Prop := ST y Y ∧ VN y s ∧ (∀ u, u < Yg y → YF Y u = (uq (dg s u)).1 ∧ YM Y u = (uq (dg s u)).2) ∧ ∀ k, k < Yn y → YP Y k = plc s k
theorem RY.rc {y Y : YS} {s : Nat} (r : RY y s Y) : rcY Y = rho y s := by
  obtain ⟨⟨a1, a2, a3, a4, a5, a6, a7⟩, v, m, p⟩ := r
  unfold rcY rho rhF rhP rhM
  rw [a1, a2, a3]
  rw [itr_cg (f := fun g v => (v * (Yc y + 1) + YF Y g) * (Yc y + 1) + YM Y g) (g := fun g v => (v * (Yc y + 1) + (uq (dg s g)).1) * (Yc y + 1) + (uq (dg s g)).2) (Yg y) 0 0 (fun k _ hk => by rw [(m k (by omega)).1, (m k (by omega)).2])]
  exact itr_cg _ _ _ (fun k _ hk => by rw [p k (by omega)])
theorem RY.let' {y Y : YS} {s g : Nat} (ok : YOK y) (r : RY y s Y) (hg : g < Yg y) (c : Nat) : letY Y g c = ltN y s g c := by
  obtain ⟨⟨a1, a2, a3, a4, a5, a6, a7⟩, v, m, p⟩ := r
  have u := ok.u hg
  unfold letY ltN lt1
  rw [a1, a4, a5, a6, (m _ u).1, (m _ u).2]
theorem RY.rem {y Y : YS} {s g c : Nat} (ok : YOK y) (h3 : Yg y ≤ 3) (n3 : Yn y ≤ 3) (r : RY y s Y) (hg : g < Yg y) (hc : c < Yc y) : RY y (tcN y s g c) (rem Y g c) := by
  have l := r.let' ok hg c
  have l' : ltN y s g c = lt1 y g (uq (dg s (YU y g))) c := rfl
  obtain ⟨w, e1, e2⟩ := r.2.1.tc ok h3 hg hc
  obtain ⟨⟨a1, a2, a3, a4, a5, a6, a7⟩, v, m, p⟩ := r
  have u := ok.u hg
  refine ⟨⟨a1, a2, a3, a4, a5, a6, a7⟩, w, fun u' hu => ?_, fun k hk => ?_⟩
  · rw [e1 u' (by omega)]
    show fup (YF Y) (YU Y g) _ u' = _ ∧ fup (YM Y) (YU Y g) _ u' = _
    rw [a6]
    by_cases e : u' = YU y g
    · rw [if_pos e, e, fup_s, fup_s, l, l', a4, (m _ u).1, (m _ u).2]
      exact ⟨rfl, rfl⟩
    · rw [if_neg e, fup_n _ _ e, fup_n _ _ e]; exact m u' hu
  · rw [e2 k (by omega)]; exact p k hk
theorem RY.try {y Y : YS} {s k : Nat} (ok : YOK y) (h3 : Yg y ≤ 3) (n3 : Yn y ≤ 3) (r : RY y s Y) (hk : k < Yn y) (hp : plc s k < Yg y) : RY y (stN y s k) (tryY Y k) := by
  have l := r.let' ok hp (YC y k)
  have hc := (ok.2.2.2.2 k hk).1
  have rm := r.rem ok h3 n3 hp hc
  obtain ⟨v', e1, e2⟩ := r.2.1.st ok h3 n3 hk hp
  obtain ⟨w, f1, f2⟩ := r.2.1.tc ok h3 hp hc
  obtain ⟨⟨a1, a2, a3, a4, a5, a6, a7⟩, v, m, p⟩ := r
  obtain ⟨-, -, m2, p2⟩ := rm
  unfold tryY
  rw [p k hk, a7, l]
  cases b : ltN y s (plc s k) (YC y k)
  · rw [if_neg (by decide)]
    refine ⟨⟨a1, a2, a3, a4, a5, a6, a7⟩, v', fun u hu => ?_, fun j hj => ?_⟩
    · rw [e1 u (by omega), ← f1 u (by omega)]; exact m2 u hu
    · rw [e2 j (by omega), b, if_neg (fun q => absurd q.2 (by decide)), ← f2 j (by omega)]; exact p2 j hj
  · rw [if_pos rfl]
    refine ⟨⟨a1, a2, a3, a4, a5, a6, a7⟩, v', fun u hu => ?_, fun j hj => ?_⟩
    · rw [e1 u (by omega), ← f1 u (by omega)]; exact m2 u hu
    · rw [e2 j (by omega), b]
      show fup (YP Y) k (plc s k + 1) j = _
      by_cases e : j = k
      · rw [if_pos ⟨e, rfl⟩, e, fup_s]
      · rw [if_neg (fun q => e q.1), fup_n _ _ e]; exact p j hj
theorem RY.out {y Y : YS} {s : Nat} (r : RY y s Y) : allOut Y = glN y s := by
  obtain ⟨⟨a1, a2, a3, a4, a5, a6, a7⟩, v, m, p⟩ := r
  unfold allOut glN
  rw [a2, a3]
  exact itr_cg _ _ _ (fun k _ hk => by rw [p k (by omega)])
theorem RY.nd {y : YS} (ok : YOK y) (h3 : Yg y ≤ 3) (n3 : Yn y ≤ 3) : RY y (ndY y) y := by
  obtain ⟨v, m, p⟩ := ndY_ok ok h3 n3
  refine ⟨⟨rfl, rfl, rfl, rfl, rfl, rfl, rfl⟩, v, fun u hu => ?_, fun k hk => (p k hk).symm⟩
  rw [m u hu]; exact ⟨rfl, rfl⟩
/-- a yard put into a state -/
def beN (Y : YS) (s : Nat) : YS := yMk (Yc Y) (Yg Y) (Yn Y) (Yt Y) (Yz Y) (YK Y) (YA Y) (YU Y) (fun u => (uq (dg s u)).1) (fun u => (uq (dg s u)).2) (YW Y) (YC Y) (plc s)
theorem RY.be {y Y : YS} {s : Nat} (st : ST y Y) (v : VN y s) : RY y s (beN Y s) := ⟨st, v, fun _ _ => ⟨rfl, rfl⟩, fun _ _ => rfl⟩
theorem YOK.be {y Y : YS} {s : Nat} (ok : YOK Y) (h3 : Yg y ≤ 3) (n3 : Yn y ≤ 3) (st : ST y Y) (v : VN y s) : YOK (beN Y s) := by
  obtain ⟨a1, a2, a3, a4, a5, a6, a7⟩ := st
  obtain ⟨o1, o2, o3, o4, o5⟩ := ok
  refine ⟨o1, o2, o3, fun g hg => ?_, fun k hk => ?_⟩
  · obtain ⟨q1, q2, q3, q4, q5, q6⟩ := o4 g hg
    have hg : g < Yg Y := hg
    have p := (v.2.1 g (by omega)).1 (by omega)
    exact ⟨q1, q2, q3, q4, by show (uq (dg s g)).1 ≤ Yc Y; rw [a1]; exact p.1, by show (uq (dg s g)).2 ≤ Yc Y; rw [a1]; exact p.2⟩
  · have hk : k < Yn Y := hk
    exact ⟨(o5 k hk).1, by show plc s k ≤ Yg Y; rw [a2]; exact (v.2.2 k (by omega)).1 (by omega)⟩
