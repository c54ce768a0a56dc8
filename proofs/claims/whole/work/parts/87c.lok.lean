/-! a call of both sides -/
theorem Met.weak {l : Launch} {y : MethodName} {ws : List Cond} {rm : Room} {P : Array Value → State → Prop} {Q Q' : Array Value → State → Outcome → State → Prop} {mc ms : Nat} {F : Addr → Prop} (h : Met l y ws rm P Q mc ms F) (hQ : ∀ a s o t, Q a s o t → Q' a s o t) : Met l y ws rm P Q' mc ms F :=
  q_met (ι := Unit) (fun _ => h) (fun a s hp => ⟨(), hp, fun o t => hQ a s o t, fun _ z => z⟩)
abbrev lD1 (A : Nat → Prop) (o1 : Nat) : Nat → Prop := fun q => A q ∨ q = o1
/-- the law's method yL with the arguments avL and the reference's yX with avX: same exception, same answer, and what holds goes on to hold -/
def lOK (Pv : Int32 → Prop) (l : Launch) (G : QG) (es : Nat) (A B : Nat → Prop) (σ ρ ad bd : QSt) (o1 : Nat) (f1 : Nat → Int64) (yL : MethodName) (wsL : List Cond) (avL : List Value) (yX : MethodName) (wsX : List Cond) (avX : List Value) : Prop :=
  ∃ (K mc ms fr lo fr2 lo2 : Nat) (σ2 R2 : QSt) (v : Int32), K ≤ 3 ∧ mc ≤ 24 ∧ ms ≤ 14000 ∧ (fr ≤ 12 ∧ lo ≤ 400 ∧ fr2 ≤ 12 ∧ lo2 ≤ 400) ∧ zIv σ2 ∧ zRel σ2 R2 ∧ rWF R2 ∧ R2 2 0 = K ∧ (K = 0 → Pv v) ∧
    Met l yL wsL ({ frames := fr, cells := mc, slots := ms, locals := lo } : Room) (qLg G es A σ ad o1 (lO1 G f1) avL) (qWV (some (.int (nI K))) (fun H => ∃ ad', qAE σ ad ad' ∧ qLW G es A σ2 ad' H ∧ ∃ f', va_at G.1 vwCl (o1, lO1 G f') H ∧ (K = 0 → f' 0 = v.toInt64)) (lD1 A o1)) mc ms (lD1 A o1) ∧
    Met l yX wsX ({ frames := fr2, cells := 0, slots := 0, locals := lo2 } : Room) (rR G B ρ bd avX) (qWV (some (.int v)) (rW G B R2 bd) B) 0 0 B
section OK
variable {Pv : Int32 → Prop} {l : Launch} {G : QG} {es : Nat} {A B : Nat → Prop} {σ ρ ad bd : QSt} {o1 : Nat} {f1 : Nat → Int64} {yL yX : MethodName} {wsL wsX : List Cond} {avL avX : List Value} {fr lo fr2 lo2 : Nat}
/-- both throw -/
theorem lOK.thr {K : Nat} (hK : 1 ≤ K ∧ K ≤ 3) (hv : zIv σ) (hR : zRel σ ρ) (hw : rWF ρ) (hr : fr ≤ 12 ∧ lo ≤ 400 ∧ fr2 ≤ 12 ∧ lo2 ≤ 400) {v : Int32}
    (M1 : Met l yL wsL ({ frames := fr, cells := 1, slots := 6, locals := lo } : Room) (qLg G es A σ ad o1 (lO1 G f1) avL) (qWV (some (.int (nI K))) (fun H => qLW G es A σ ad H ∧ va_at G.1 vwCl (o1, lO1 G f1) H) (lD1 A o1)) 1 6 (lD1 A o1))
    (M2 : Met l yX wsX ({ frames := fr2, cells := 0, slots := 0, locals := lo2 } : Room) (rR G B ρ bd avX) (qWV (some (.int v)) (rW G B (qup (rT ρ) 2 0 K) bd) B) 0 0 B) : lOK Pv l G es A B σ ρ ad bd o1 f1 yL wsL avL yX wsX avX :=
  ⟨K, 1, 6, fr, lo, fr2, lo2, σ, qup (rT ρ) 2 0 K, v, hK.2, by decide, by decide, hr, hv, (l_rT hR).thr K, (rT_wf hw).up 2 0 K (by omega) (by decide), qup_s _ _ _ _, fun z => absurd z (by omega),
    M1.weak (fun _ _ _ _ h => ⟨h.1, ⟨ad, qAE.rf, h.2.1.1, f1, h.2.1.2, fun z => absurd z (by omega)⟩, h.2.2⟩), M2⟩
/-- both read -/
theorem lOK.rd (hv : zIv σ) (hR : zRel σ ρ) (hw : rWF ρ) (hr : fr ≤ 12 ∧ lo ≤ 400 ∧ fr2 ≤ 12 ∧ lo2 ≤ 400) {x y : Int32} {z : Int64}
    (M1 : Met l yL wsL ({ frames := fr, cells := 0, slots := 0, locals := lo } : Room) (qLg G es A σ ad o1 (lO1 G f1) avL) (qWV (some (.int (nI 0))) (fun H => qLW G es A σ ad H ∧ ∃ f', va_at G.1 vwCl (o1, lO1 G f') H ∧ f' 0 = z) (lD1 A o1)) 0 0 (lD1 A o1))
    (M2 : Met l yX wsX ({ frames := fr2, cells := 0, slots := 0, locals := lo2 } : Room) (rR G B ρ bd avX) (qWV (some (.int y)) (rW G B (rT ρ) bd) B) 0 0 B) (e : y = x) (e2 : z = x.toInt64) (hp : Pv x) : lOK Pv l G es A B σ ρ ad bd o1 f1 yL wsL avL yX wsX avX := by
  subst e
  subst e2
  exact ⟨0, 0, 0, fr, lo, fr2, lo2, σ, rT ρ, y, by decide, by decide, by decide, hr, hv, l_rT hR, rT_wf hw, rT_0 ρ, fun _ => hp,
    M1.weak (fun _ _ _ _ h => ⟨h.1, h.2.1.elim (fun h1 h2 => h2.elim (fun f' h3 => ⟨ad, qAE.rf, h1, f', h3.1, fun _ => h3.2⟩)), h.2.2⟩), M2⟩
/-- both write, no new cells -/
theorem lOK.wr {σ2 R2 : QSt} (hr : fr ≤ 12 ∧ lo ≤ 400 ∧ fr2 ≤ 12 ∧ lo2 ≤ 400) (hv : zIv σ2) (hR : zRel σ2 R2) (hw : rWF R2) (h2 : R2 2 0 = 0) {x y : Int32}
    (M1 : Met l yL wsL ({ frames := fr, cells := 0, slots := 0, locals := lo } : Room) (qLg G es A σ ad o1 (lO1 G f1) avL) (qWV (some (.int (nI 0))) (fun H => qLW G es A σ2 ad H ∧ ∃ f', va_at G.1 vwCl (o1, lO1 G f') H ∧ f' 0 = x.toInt64) (lD1 A o1)) 0 0 (lD1 A o1))
    (M2 : Met l yX wsX ({ frames := fr2, cells := 0, slots := 0, locals := lo2 } : Room) (rR G B ρ bd avX) (qWV (some (.int y)) (rW G B R2 bd) B) 0 0 B) (e : y = x) (hp : Pv x) : lOK Pv l G es A B σ ρ ad bd o1 f1 yL wsL avL yX wsX avX := by
  subst e
  exact ⟨0, 0, 0, fr, lo, fr2, lo2, σ2, R2, y, by decide, by decide, by decide, hr, hv, hR, hw, h2, fun _ => hp,
    M1.weak (fun _ _ _ _ h => ⟨h.1, h.2.1.elim (fun h1 h2 => h2.elim (fun f' h3 => ⟨ad, qAE.rf, h1, f', h3.1, fun _ => h3.2⟩)), h.2.2⟩), M2⟩
/-- both write, the store grows -/
theorem lOK.gr {σ2 R2 : QSt} {mc ms : Nat} (hc : mc ≤ 24 ∧ ms ≤ 14000) (hr : fr ≤ 12 ∧ lo ≤ 400 ∧ fr2 ≤ 12 ∧ lo2 ≤ 400) (hv : zIv σ2) (hR : zRel σ2 R2) (hw : rWF R2) (h2 : R2 2 0 = 0) {x y : Int32}
    (M1 : Met l yL wsL ({ frames := fr, cells := mc, slots := ms, locals := lo } : Room) (qLg G es A σ ad o1 (lO1 G f1) avL) (qWV (some (.int (nI 0))) (fun H => ∃ ad', qAE σ ad ad' ∧ qLW G es A σ2 ad' H ∧ ∃ f', va_at G.1 vwCl (o1, lO1 G f') H ∧ f' 0 = x.toInt64) (lD1 A o1)) mc ms (lD1 A o1))
    (M2 : Met l yX wsX ({ frames := fr2, cells := 0, slots := 0, locals := lo2 } : Room) (rR G B ρ bd avX) (qWV (some (.int y)) (rW G B R2 bd) B) 0 0 B) (e : y = x) (hp : Pv x) : lOK Pv l G es A B σ ρ ad bd o1 f1 yL wsL avL yX wsX avX := by
  subst e
  refine ⟨0, mc, ms, fr, lo, fr2, lo2, σ2, R2, y, by decide, hc.1, hc.2, hr, hv, hR, hw, h2, fun _ => hp, M1.weak (fun _ _ _ _ h => ⟨h.1, ?_, h.2.2⟩), M2⟩
  obtain ⟨ad', h3, h4, f', h5, h6⟩ := h.2.1
  exact ⟨ad', h3, h4, f', h5, fun _ => h6⟩
end OK
