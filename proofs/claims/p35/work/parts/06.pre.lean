/-! what a method asks at its start, by shapes -/
def qO (G : QG) (xs : va_W) (av : List Value) : Array Value → State → Prop := va_Pc av (fun U => qCX G U ∧ va_P G.1 vwCl xs U.heap)
theorem qO.blind {G : QG} {xs : va_W} {av : List Value} : FrameBlind (qO G xs av) := fun _ _ _ _ q => ⟨q.1, q.2.1.blind, q.2.2⟩
theorem qO.pre {G : QG} {xs : va_W} {av : List Value} {s : State} {H : Heap} (hC : qCX G s) (hP : va_P G.1 vwCl xs H) : ∀ U : State, U.heap = H → s.WarmedH U.vm → qO G xs av av.toArray U := fun U hU hW => ⟨rfl, hC.warm hW, by rw [hU]; exact hP⟩
def qR (G : QG) (es : Nat) (A : Nat → Prop) (σ ad : QSt) (av : List Value) : Array Value → State → Prop := va_Pc av (fun U => qCX G U ∧ qLW G es A σ ad U.heap)
theorem qR.blind {G : QG} {es : Nat} {A : Nat → Prop} {σ ad : QSt} {av : List Value} : FrameBlind (qR G es A σ ad av) := fun _ _ _ _ q => ⟨q.1, q.2.1.blind, q.2.2⟩
theorem qR.pre {G : QG} {es : Nat} {A : Nat → Prop} {σ ad : QSt} {av : List Value} {s : State} {H : Heap} (hC : qCX G s) (hW : qLW G es A σ ad H) : ∀ U : State, U.heap = H → s.WarmedH U.vm → qR G es A σ ad av av.toArray U := fun U hU hW2 => ⟨rfl, hC.warm hW2, by rw [hU]; exact hW⟩
def qW (G : QG) (es : Nat) (A : Nat → Prop) (σ ad : QSt) (av : List Value) : Array Value → State → Prop := va_Pc av (fun U => qCX G U ∧ qLW G es A σ ad U.heap ∧ qSZ es A U U.heap ∧ ∀ q, U.heap.size ≤ q → A q)
theorem qW.blind {G : QG} {es : Nat} {A : Nat → Prop} {σ ad : QSt} {av : List Value} : FrameBlind (qW G es A σ ad av) := fun _ _ _ _ q => ⟨q.1, q.2.1.blind, q.2.2.1, q.2.2.2.1.blind, q.2.2.2.2⟩
theorem qW.pre {G : QG} {es : Nat} {A A0 : Nat → Prop} {σ ad : QSt} {av : List Value} {s : State} {H : Heap} {locs : List Loc} (hC : qCX G s) (hW : qLW G es A σ ad H) (hZ : qSZ es A0 s s.heap) (hS : va_S A0 s.heap H locs) (hAA : ∀ q, A q → A0 q) (hA : ∀ q, H.size ≤ q → A q) : ∀ U : State, U.heap = H → s.WarmedH U.vm → qW G es A σ ad av av.toArray U := fun U hU hW2 => ⟨rfl, hC.warm hW2, by rw [hU]; exact hW, by rw [hU]; exact ((hZ.kept hS.2.1).narrow hAA).moved hW2.alike, by rw [hU]; exact hA⟩
def qR1 (G : QG) (es : Nat) (A : Nat → Prop) (σ ad : QSt) (x : Nat × va_E) (av : List Value) : Array Value → State → Prop := va_Pc av (fun U => qCX G U ∧ qLW G es A σ ad U.heap ∧ va_at G.1 vwCl x U.heap)
theorem qR1.blind {G : QG} {es : Nat} {A : Nat → Prop} {σ ad : QSt} {x : Nat × va_E} {av : List Value} : FrameBlind (qR1 G es A σ ad x av) := fun _ _ _ _ q => ⟨q.1, q.2.1.blind, q.2.2⟩
theorem qR1.pre {G : QG} {es : Nat} {A : Nat → Prop} {σ ad : QSt} {x : Nat × va_E} {av : List Value} {s : State} {H : Heap} (hC : qCX G s) (hW : qLW G es A σ ad H) (hx : va_at G.1 vwCl x H) : ∀ U : State, U.heap = H → s.WarmedH U.vm → qR1 G es A σ ad x av av.toArray U := fun U hU hW2 => ⟨rfl, hC.warm hW2, by rw [hU]; exact hW, by rw [hU]; exact hx⟩
/-- no heap is asked -/
def qU (av : List Value) : Array Value → State → Prop := va_Pc av (fun _ => True)
theorem qU.blind {av : List Value} : FrameBlind (qU av) := fun _ _ _ _ q => q
theorem qU.pre {av : List Value} {s : State} {H : Heap} : ∀ U : State, U.heap = H → s.WarmedH U.vm → qU av av.toArray U := fun _ _ _ => ⟨rfl, trivial⟩
theorem qUr {av : List Value} {v : Array Value} {s : State} (h : qU av v s) : v = av.toArray ∧ True := h
/-- a contract told in other words: for each start some choice of its ghosts serves -/
theorem q_met {ι : Type} {l : Launch} {y : MethodName} {ws : List Cond} {rm : Room} {mc ms : Nat} {P : ι → Array Value → State → Prop} {Qi : ι → Array Value → State → Outcome → State → Prop} {F : ι → Addr → Prop} {P' : Array Value → State → Prop} {Q' : Array Value → State → Outcome → State → Prop} {F' : Addr → Prop}
    (h : ∀ i : ι, Met l y ws rm (P i) (Qi i) mc ms (F i)) (hP : ∀ a s, P' a s → ∃ i, P i a s ∧ (∀ o t, Qi i a s o t → Q' a s o t) ∧ (∀ q, F i q → F' q)) : Met l y ws rm P' Q' mc ms F' := by
  intro p e ha hc hk s m args below hf happ hp _
  obtain ⟨i, hi, hq, hF⟩ := hP _ _ hp
  obtain ⟨n, o, h1, h2, h3, h4⟩ := h i p e ha hc hk s m args below hf happ hi trivial
  exact ⟨n, o, h1, h2, h3, hq _ _ h4.1, h4.2.elim (fun L hL => ⟨L, hL.1, fun q hq => hF _ (hL.2 q hq)⟩)⟩
