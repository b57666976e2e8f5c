section MR2
variable {p : Program} {l : Launch} {e : Env} {R0 : Room} {s : State} {m : MethodId} {args : Array Value} {below : List Frame} {meth : Method} {c : Code} {H : Heap} {locs : List Loc} {cells slots : Nat} {Q : State → Prop} {cc : ByteArray} {pc : Nat} {ls : Array Slot} {rest : List Value} {G : mG} {K : Nat → Nat} {I : Nat → Nat → Int32} {R : Nat → Nat → Option Nat} {F : Nat → UInt32} {A : Nat → Nat → Int32} {N : Nat → Nat} {L : Nat → List Nat} {T : Nat → List Int32} {J : Nat → Nat → Int64} {D : Nat → Nat → UInt64}
theorem m_loop {σ : Type} (μ : σ → Nat) (P : σ → Heap → List Loc → Array Slot → Prop) (hs : ∀ (a : σ) (H : Heap) (locs : List Loc) (ls : Array Slot), P a H locs ls → (∀ (a' : σ) (H' : Heap) (locs' : List Loc) (ls' : Array Slot), μ a' < μ a → P a' H' locs' ls' → W p l e R0 s m args below meth c H' locs' cells slots Q (F0 m pc ls' rest)) → W p l e R0 s m args below meth c H locs cells slots Q (F0 m pc ls rest)) (a : σ) (h : P a H locs ls) : W p l e R0 s m args below meth c H locs cells slots Q (F0 m pc ls rest) := by
  have key : ∀ (n : Nat) (a : σ) (H : Heap) (locs : List Loc) (ls : Array Slot), μ a ≤ n → P a H locs ls → W p l e R0 s m args below meth c H locs cells slots Q (F0 m pc ls rest) := by
    intro n
    induction n with
    | zero => exact fun a H locs ls hn hp => hs a H locs ls hp (fun a' _ _ _ hlt _ => absurd hlt (by omega))
    | succ n ih => exact fun a H locs ls hn hp => hs a H locs ls hp (fun a' H' locs' ls' hlt hp' => ih a' H' locs' ls' (by omega) hp')
  exact key (μ a) a H locs ls (Nat.le_refl _) h
theorem m_join {σ : Type} (pcJ : Nat) (P : σ → Prop) (stJ : σ → List Value) (hs : ∀ a, P a → W p l e R0 s m args below meth c H locs cells slots Q (F0 m pcJ ls (stJ a))) (k : (∀ a, P a → W p l e R0 s m args below meth c H locs cells slots Q (F0 m pcJ ls (stJ a))) → W p l e R0 s m args below meth c H locs cells slots Q (F0 m pc ls rest)) : W p l e R0 s m args below meth c H locs cells slots Q (F0 m pc ls rest) := k hs
theorem m_ci {S : Type} {post : Int32 → S → Prop} {fK : S → (Nat → Nat)} {fI : S → (Nat → Nat → Int32)} {fR : S → (Nat → Nat → Option Nat)} {fF : S → (Nat → UInt32)} {fA : S → (Nat → Nat → Int32)} {fN : S → (Nat → Nat)} {fL : S → (Nat → List Nat)} {fT : S → (Nat → List Int32)} {fJ : S → (Nat → Nat → Int64)} {fD : S → (Nat → Nat → UInt64)} {st0 : List Value} {a : Array Value} {mc ms : Nat} (hr : va_Run p l e R0 s m args below meth c H locs cells slots mc ms (F0 m pc ls st0) rest (va_Qi post (fun u => m_B G (fK u) (fI u) (fR u) (fF u) (fA u) (fN u) (fL u) (fT u) (fJ u) (fD u)) (m_A G) a) (m_A G)) (hw : m_wo G K I R F A N L T J D s H locs)
    (kk : ∀ (r : Int32) (u : S) (H1 : Heap) (locs1 : List Loc), post r u → m_wo G (fK u) (fI u) (fR u) (fF u) (fA u) (fN u) (fL u) (fT u) (fJ u) (fD u) s H1 locs1 → W p l e R0 s m args below meth c H1 locs1 (cells + mc) (slots + ms) Q (F0 m (pc + 3) ls (.int r :: rest))) : W p l e R0 s m args below meth c H locs cells slots Q (F0 m pc ls st0) :=
  va_calli hr hw.2.2.2.1 (fun _ _ h => h) (fun _ h => h) (fun r u t H1 locs1 ht hvm hp hB _ _ hS => kk r u H1 locs1 hp (m_wo_back hw hB ht hS))
theorem m_xi {S SX : Type} {post : Int32 → S → Prop} {px : SX → Prop} {ex : SX → String} {fK : S → (Nat → Nat)} {fI : S → (Nat → Nat → Int32)} {fR : S → (Nat → Nat → Option Nat)} {fF : S → (Nat → UInt32)} {fA : S → (Nat → Nat → Int32)} {fN : S → (Nat → Nat)} {fL : S → (Nat → List Nat)} {fT : S → (Nat → List Int32)} {fJ : S → (Nat → Nat → Int64)} {fD : S → (Nat → Nat → UInt64)} {xK : SX → (Nat → Nat)} {xI : SX → (Nat → Nat → Int32)} {xR : SX → (Nat → Nat → Option Nat)} {xF : SX → (Nat → UInt32)} {xA : SX → (Nat → Nat → Int32)} {xN : SX → (Nat → Nat)} {xL : SX → (Nat → List Nat)} {xT : SX → (Nat → List Int32)} {xJ : SX → (Nat → Nat → Int64)} {xD : SX → (Nat → Nat → UInt64)} {st0 : List Value} {a : Array Value} {mc ms : Nat} (hr : vx_Run p l e R0 s m args below meth c H locs cells slots mc ms (F0 m pc ls st0) rest (va_Qi post (fun u => m_B G (fK u) (fI u) (fR u) (fF u) (fA u) (fN u) (fL u) (fT u) (fJ u) (fD u)) (m_A G) a) (vx_X px (fun E u t => E = ex u ∧ m_B G (xK u) (xI u) (xR u) (xF u) (xA u) (xN u) (xL u) (xT u) (xJ u) (xD u) t) (m_A G)) (m_A G)) (hw : m_wo G K I R F A N L T J D s H locs)
    (kx : ∀ (E : String) (ce : Cell) (q9 : Addr) (u : SX) (H1 : Heap) (locs1 : List Loc), px u ∧ E = ex u → m_wo G (xK u) (xI u) (xR u) (xF u) (xA u) (xN u) (xL u) (xT u) (xJ u) (xD u) s H1 locs1 → H1[q9]? = some ce → ce.vm = .none → s.vm.findClass E = some ce.cls → vx_W p l e R0 s m args below meth c H1 locs1 (cells + mc) (slots + ms) Q (F0 m pc ls rest) q9)
    (kk : ∀ (r : Int32) (u : S) (H1 : Heap) (locs1 : List Loc), post r u → m_wo G (fK u) (fI u) (fR u) (fF u) (fA u) (fN u) (fL u) (fT u) (fJ u) (fD u) s H1 locs1 → W p l e R0 s m args below meth c H1 locs1 (cells + mc) (slots + ms) Q (F0 m (pc + 3) ls (.int r :: rest))) : W p l e R0 s m args below meth c H locs cells slots Q (F0 m pc ls st0) :=
  vx_calli hr hw.2.2.2.1 (fun _ _ h => h) (fun _ h => h) (fun _ _ h => h) (fun E ce q9 u t H1 locs1 ht hvm hp hB _ _ hS h1 h2 h3 => kx E ce q9 u H1 locs1 ⟨hp, hB.1⟩ (m_wo_back hw hB.2 ht hS) h1 h2 h3) (fun r u t H1 locs1 ht hvm hp hB _ _ hS => kk r u H1 locs1 hp (m_wo_back hw hB ht hS))
theorem m_cl {S : Type} {post : Int64 → S → Prop} {fK : S → (Nat → Nat)} {fI : S → (Nat → Nat → Int32)} {fR : S → (Nat → Nat → Option Nat)} {fF : S → (Nat → UInt32)} {fA : S → (Nat → Nat → Int32)} {fN : S → (Nat → Nat)} {fL : S → (Nat → List Nat)} {fT : S → (Nat → List Int32)} {fJ : S → (Nat → Nat → Int64)} {fD : S → (Nat → Nat → UInt64)} {st0 : List Value} {a : Array Value} {mc ms : Nat} (hr : va_Run p l e R0 s m args below meth c H locs cells slots mc ms (F0 m pc ls st0) rest (va_Ql post (fun u => m_B G (fK u) (fI u) (fR u) (fF u) (fA u) (fN u) (fL u) (fT u) (fJ u) (fD u)) (m_A G) a) (m_A G)) (hw : m_wo G K I R F A N L T J D s H locs)
    (kk : ∀ (r : Int64) (u : S) (H1 : Heap) (locs1 : List Loc), post r u → m_wo G (fK u) (fI u) (fR u) (fF u) (fA u) (fN u) (fL u) (fT u) (fJ u) (fD u) s H1 locs1 → W p l e R0 s m args below meth c H1 locs1 (cells + mc) (slots + ms) Q (F0 m (pc + 3) ls (.long r :: rest))) : W p l e R0 s m args below meth c H locs cells slots Q (F0 m pc ls st0) :=
  va_calll hr hw.2.2.2.1 (fun _ _ h => h) (fun _ h => h) (fun r u t H1 locs1 ht hvm hp hB _ _ hS => kk r u H1 locs1 hp (m_wo_back hw hB ht hS))
theorem m_xl {S SX : Type} {post : Int64 → S → Prop} {px : SX → Prop} {ex : SX → String} {fK : S → (Nat → Nat)} {fI : S → (Nat → Nat → Int32)} {fR : S → (Nat → Nat → Option Nat)} {fF : S → (Nat → UInt32)} {fA : S → (Nat → Nat → Int32)} {fN : S → (Nat → Nat)} {fL : S → (Nat → List Nat)} {fT : S → (Nat → List Int32)} {fJ : S → (Nat → Nat → Int64)} {fD : S → (Nat → Nat → UInt64)} {xK : SX → (Nat → Nat)} {xI : SX → (Nat → Nat → Int32)} {xR : SX → (Nat → Nat → Option Nat)} {xF : SX → (Nat → UInt32)} {xA : SX → (Nat → Nat → Int32)} {xN : SX → (Nat → Nat)} {xL : SX → (Nat → List Nat)} {xT : SX → (Nat → List Int32)} {xJ : SX → (Nat → Nat → Int64)} {xD : SX → (Nat → Nat → UInt64)} {st0 : List Value} {a : Array Value} {mc ms : Nat} (hr : vx_Run p l e R0 s m args below meth c H locs cells slots mc ms (F0 m pc ls st0) rest (va_Ql post (fun u => m_B G (fK u) (fI u) (fR u) (fF u) (fA u) (fN u) (fL u) (fT u) (fJ u) (fD u)) (m_A G) a) (vx_X px (fun E u t => E = ex u ∧ m_B G (xK u) (xI u) (xR u) (xF u) (xA u) (xN u) (xL u) (xT u) (xJ u) (xD u) t) (m_A G)) (m_A G)) (hw : m_wo G K I R F A N L T J D s H locs)
    (kx : ∀ (E : String) (ce : Cell) (q9 : Addr) (u : SX) (H1 : Heap) (locs1 : List Loc), px u ∧ E = ex u → m_wo G (xK u) (xI u) (xR u) (xF u) (xA u) (xN u) (xL u) (xT u) (xJ u) (xD u) s H1 locs1 → H1[q9]? = some ce → ce.vm = .none → s.vm.findClass E = some ce.cls → vx_W p l e R0 s m args below meth c H1 locs1 (cells + mc) (slots + ms) Q (F0 m pc ls rest) q9)
    (kk : ∀ (r : Int64) (u : S) (H1 : Heap) (locs1 : List Loc), post r u → m_wo G (fK u) (fI u) (fR u) (fF u) (fA u) (fN u) (fL u) (fT u) (fJ u) (fD u) s H1 locs1 → W p l e R0 s m args below meth c H1 locs1 (cells + mc) (slots + ms) Q (F0 m (pc + 3) ls (.long r :: rest))) : W p l e R0 s m args below meth c H locs cells slots Q (F0 m pc ls st0) :=
  vx_calll hr hw.2.2.2.1 (fun _ _ h => h) (fun _ h => h) (fun _ _ h => h) (fun E ce q9 u t H1 locs1 ht hvm hp hB _ _ hS h1 h2 h3 => kx E ce q9 u H1 locs1 ⟨hp, hB.1⟩ (m_wo_back hw hB.2 ht hS) h1 h2 h3) (fun r u t H1 locs1 ht hvm hp hB _ _ hS => kk r u H1 locs1 hp (m_wo_back hw hB ht hS))
theorem m_cf {S : Type} {post : UInt32 → S → Prop} {fK : S → (Nat → Nat)} {fI : S → (Nat → Nat → Int32)} {fR : S → (Nat → Nat → Option Nat)} {fF : S → (Nat → UInt32)} {fA : S → (Nat → Nat → Int32)} {fN : S → (Nat → Nat)} {fL : S → (Nat → List Nat)} {fT : S → (Nat → List Int32)} {fJ : S → (Nat → Nat → Int64)} {fD : S → (Nat → Nat → UInt64)} {st0 : List Value} {a : Array Value} {mc ms : Nat} (hr : va_Run p l e R0 s m args below meth c H locs cells slots mc ms (F0 m pc ls st0) rest (va_Qf post (fun u => m_B G (fK u) (fI u) (fR u) (fF u) (fA u) (fN u) (fL u) (fT u) (fJ u) (fD u)) (m_A G) a) (m_A G)) (hw : m_wo G K I R F A N L T J D s H locs)
    (kk : ∀ (r : UInt32) (u : S) (H1 : Heap) (locs1 : List Loc), post r u → m_wo G (fK u) (fI u) (fR u) (fF u) (fA u) (fN u) (fL u) (fT u) (fJ u) (fD u) s H1 locs1 → W p l e R0 s m args below meth c H1 locs1 (cells + mc) (slots + ms) Q (F0 m (pc + 3) ls (.float r :: rest))) : W p l e R0 s m args below meth c H locs cells slots Q (F0 m pc ls st0) :=
  va_callf hr hw.2.2.2.1 (fun _ _ h => h) (fun _ h => h) (fun r u t H1 locs1 ht hvm hp hB _ _ hS => kk r u H1 locs1 hp (m_wo_back hw hB ht hS))
theorem m_xf {S SX : Type} {post : UInt32 → S → Prop} {px : SX → Prop} {ex : SX → String} {fK : S → (Nat → Nat)} {fI : S → (Nat → Nat → Int32)} {fR : S → (Nat → Nat → Option Nat)} {fF : S → (Nat → UInt32)} {fA : S → (Nat → Nat → Int32)} {fN : S → (Nat → Nat)} {fL : S → (Nat → List Nat)} {fT : S → (Nat → List Int32)} {fJ : S → (Nat → Nat → Int64)} {fD : S → (Nat → Nat → UInt64)} {xK : SX → (Nat → Nat)} {xI : SX → (Nat → Nat → Int32)} {xR : SX → (Nat → Nat → Option Nat)} {xF : SX → (Nat → UInt32)} {xA : SX → (Nat → Nat → Int32)} {xN : SX → (Nat → Nat)} {xL : SX → (Nat → List Nat)} {xT : SX → (Nat → List Int32)} {xJ : SX → (Nat → Nat → Int64)} {xD : SX → (Nat → Nat → UInt64)} {st0 : List Value} {a : Array Value} {mc ms : Nat} (hr : vx_Run p l e R0 s m args below meth c H locs cells slots mc ms (F0 m pc ls st0) rest (va_Qf post (fun u => m_B G (fK u) (fI u) (fR u) (fF u) (fA u) (fN u) (fL u) (fT u) (fJ u) (fD u)) (m_A G) a) (vx_X px (fun E u t => E = ex u ∧ m_B G (xK u) (xI u) (xR u) (xF u) (xA u) (xN u) (xL u) (xT u) (xJ u) (xD u) t) (m_A G)) (m_A G)) (hw : m_wo G K I R F A N L T J D s H locs)
    (kx : ∀ (E : String) (ce : Cell) (q9 : Addr) (u : SX) (H1 : Heap) (locs1 : List Loc), px u ∧ E = ex u → m_wo G (xK u) (xI u) (xR u) (xF u) (xA u) (xN u) (xL u) (xT u) (xJ u) (xD u) s H1 locs1 → H1[q9]? = some ce → ce.vm = .none → s.vm.findClass E = some ce.cls → vx_W p l e R0 s m args below meth c H1 locs1 (cells + mc) (slots + ms) Q (F0 m pc ls rest) q9)
    (kk : ∀ (r : UInt32) (u : S) (H1 : Heap) (locs1 : List Loc), post r u → m_wo G (fK u) (fI u) (fR u) (fF u) (fA u) (fN u) (fL u) (fT u) (fJ u) (fD u) s H1 locs1 → W p l e R0 s m args below meth c H1 locs1 (cells + mc) (slots + ms) Q (F0 m (pc + 3) ls (.float r :: rest))) : W p l e R0 s m args below meth c H locs cells slots Q (F0 m pc ls st0) :=
  vx_callf hr hw.2.2.2.1 (fun _ _ h => h) (fun _ h => h) (fun _ _ h => h) (fun E ce q9 u t H1 locs1 ht hvm hp hB _ _ hS h1 h2 h3 => kx E ce q9 u H1 locs1 ⟨hp, hB.1⟩ (m_wo_back hw hB.2 ht hS) h1 h2 h3) (fun r u t H1 locs1 ht hvm hp hB _ _ hS => kk r u H1 locs1 hp (m_wo_back hw hB ht hS))
theorem m_cd {S : Type} {post : UInt64 → S → Prop} {fK : S → (Nat → Nat)} {fI : S → (Nat → Nat → Int32)} {fR : S → (Nat → Nat → Option Nat)} {fF : S → (Nat → UInt32)} {fA : S → (Nat → Nat → Int32)} {fN : S → (Nat → Nat)} {fL : S → (Nat → List Nat)} {fT : S → (Nat → List Int32)} {fJ : S → (Nat → Nat → Int64)} {fD : S → (Nat → Nat → UInt64)} {st0 : List Value} {a : Array Value} {mc ms : Nat} (hr : va_Run p l e R0 s m args below meth c H locs cells slots mc ms (F0 m pc ls st0) rest (va_Qd post (fun u => m_B G (fK u) (fI u) (fR u) (fF u) (fA u) (fN u) (fL u) (fT u) (fJ u) (fD u)) (m_A G) a) (m_A G)) (hw : m_wo G K I R F A N L T J D s H locs)
    (kk : ∀ (r : UInt64) (u : S) (H1 : Heap) (locs1 : List Loc), post r u → m_wo G (fK u) (fI u) (fR u) (fF u) (fA u) (fN u) (fL u) (fT u) (fJ u) (fD u) s H1 locs1 → W p l e R0 s m args below meth c H1 locs1 (cells + mc) (slots + ms) Q (F0 m (pc + 3) ls (.double r :: rest))) : W p l e R0 s m args below meth c H locs cells slots Q (F0 m pc ls st0) :=
  va_calld hr hw.2.2.2.1 (fun _ _ h => h) (fun _ h => h) (fun r u t H1 locs1 ht hvm hp hB _ _ hS => kk r u H1 locs1 hp (m_wo_back hw hB ht hS))
theorem m_xd {S SX : Type} {post : UInt64 → S → Prop} {px : SX → Prop} {ex : SX → String} {fK : S → (Nat → Nat)} {fI : S → (Nat → Nat → Int32)} {fR : S → (Nat → Nat → Option Nat)} {fF : S → (Nat → UInt32)} {fA : S → (Nat → Nat → Int32)} {fN : S → (Nat → Nat)} {fL : S → (Nat → List Nat)} {fT : S → (Nat → List Int32)} {fJ : S → (Nat → Nat → Int64)} {fD : S → (Nat → Nat → UInt64)} {xK : SX → (Nat → Nat)} {xI : SX → (Nat → Nat → Int32)} {xR : SX → (Nat → Nat → Option Nat)} {xF : SX → (Nat → UInt32)} {xA : SX → (Nat → Nat → Int32)} {xN : SX → (Nat → Nat)} {xL : SX → (Nat → List Nat)} {xT : SX → (Nat → List Int32)} {xJ : SX → (Nat → Nat → Int64)} {xD : SX → (Nat → Nat → UInt64)} {st0 : List Value} {a : Array Value} {mc ms : Nat} (hr : vx_Run p l e R0 s m args below meth c H locs cells slots mc ms (F0 m pc ls st0) rest (va_Qd post (fun u => m_B G (fK u) (fI u) (fR u) (fF u) (fA u) (fN u) (fL u) (fT u) (fJ u) (fD u)) (m_A G) a) (vx_X px (fun E u t => E = ex u ∧ m_B G (xK u) (xI u) (xR u) (xF u) (xA u) (xN u) (xL u) (xT u) (xJ u) (xD u) t) (m_A G)) (m_A G)) (hw : m_wo G K I R F A N L T J D s H locs)
    (kx : ∀ (E : String) (ce : Cell) (q9 : Addr) (u : SX) (H1 : Heap) (locs1 : List Loc), px u ∧ E = ex u → m_wo G (xK u) (xI u) (xR u) (xF u) (xA u) (xN u) (xL u) (xT u) (xJ u) (xD u) s H1 locs1 → H1[q9]? = some ce → ce.vm = .none → s.vm.findClass E = some ce.cls → vx_W p l e R0 s m args below meth c H1 locs1 (cells + mc) (slots + ms) Q (F0 m pc ls rest) q9)
    (kk : ∀ (r : UInt64) (u : S) (H1 : Heap) (locs1 : List Loc), post r u → m_wo G (fK u) (fI u) (fR u) (fF u) (fA u) (fN u) (fL u) (fT u) (fJ u) (fD u) s H1 locs1 → W p l e R0 s m args below meth c H1 locs1 (cells + mc) (slots + ms) Q (F0 m (pc + 3) ls (.double r :: rest))) : W p l e R0 s m args below meth c H locs cells slots Q (F0 m pc ls st0) :=
  vx_calld hr hw.2.2.2.1 (fun _ _ h => h) (fun _ h => h) (fun _ _ h => h) (fun E ce q9 u t H1 locs1 ht hvm hp hB _ _ hS h1 h2 h3 => kx E ce q9 u H1 locs1 ⟨hp, hB.1⟩ (m_wo_back hw hB.2 ht hS) h1 h2 h3) (fun r u t H1 locs1 ht hvm hp hB _ _ hS => kk r u H1 locs1 hp (m_wo_back hw hB ht hS))
theorem m_cq {S : Type} {post : Option Nat → S → Prop} {fK : S → (Nat → Nat)} {fI : S → (Nat → Nat → Int32)} {fR : S → (Nat → Nat → Option Nat)} {fF : S → (Nat → UInt32)} {fA : S → (Nat → Nat → Int32)} {fN : S → (Nat → Nat)} {fL : S → (Nat → List Nat)} {fT : S → (Nat → List Int32)} {fJ : S → (Nat → Nat → Int64)} {fD : S → (Nat → Nat → UInt64)} {st0 : List Value} {a : Array Value} {mc ms : Nat} (hr : va_Run p l e R0 s m args below meth c H locs cells slots mc ms (F0 m pc ls st0) rest (va_Qq post (fun u => m_B G (fK u) (fI u) (fR u) (fF u) (fA u) (fN u) (fL u) (fT u) (fJ u) (fD u)) (m_A G) a) (m_A G)) (hw : m_wo G K I R F A N L T J D s H locs)
    (kk : ∀ (r : Option Nat) (u : S) (H1 : Heap) (locs1 : List Loc), post r u → m_wo G (fK u) (fI u) (fR u) (fF u) (fA u) (fN u) (fL u) (fT u) (fJ u) (fD u) s H1 locs1 → W p l e R0 s m args below meth c H1 locs1 (cells + mc) (slots + ms) Q (F0 m (pc + 3) ls (va_rf r :: rest))) : W p l e R0 s m args below meth c H locs cells slots Q (F0 m pc ls st0) :=
  va_callq hr hw.2.2.2.1 (fun _ _ h => h) (fun _ h => h) (fun r u t H1 locs1 ht hvm hp hB _ _ hS => kk r u H1 locs1 hp (m_wo_back hw hB ht hS))
theorem m_cv {S : Type} {post : S → Prop} {fK : S → (Nat → Nat)} {fI : S → (Nat → Nat → Int32)} {fR : S → (Nat → Nat → Option Nat)} {fF : S → (Nat → UInt32)} {fA : S → (Nat → Nat → Int32)} {fN : S → (Nat → Nat)} {fL : S → (Nat → List Nat)} {fT : S → (Nat → List Int32)} {fJ : S → (Nat → Nat → Int64)} {fD : S → (Nat → Nat → UInt64)} {st0 : List Value} {a : Array Value} {mc ms : Nat} (hr : va_Run p l e R0 s m args below meth c H locs cells slots mc ms (F0 m pc ls st0) rest (va_Qv post (fun u => m_B G (fK u) (fI u) (fR u) (fF u) (fA u) (fN u) (fL u) (fT u) (fJ u) (fD u)) (m_A G) a) (m_A G)) (hw : m_wo G K I R F A N L T J D s H locs)
    (kk : ∀ (u : S) (H1 : Heap) (locs1 : List Loc), post u → m_wo G (fK u) (fI u) (fR u) (fF u) (fA u) (fN u) (fL u) (fT u) (fJ u) (fD u) s H1 locs1 → W p l e R0 s m args below meth c H1 locs1 (cells + mc) (slots + ms) Q (F0 m (pc + 3) ls (rest))) : W p l e R0 s m args below meth c H locs cells slots Q (F0 m pc ls st0) :=
  va_callv hr hw.2.2.2.1 (fun _ _ h => h) (fun _ h => h) (fun u t H1 locs1 ht hvm hp hB _ _ hS => kk u H1 locs1 hp (m_wo_back hw hB ht hS))
theorem m_xv {S SX : Type} {post : S → Prop} {px : SX → Prop} {ex : SX → String} {fK : S → (Nat → Nat)} {fI : S → (Nat → Nat → Int32)} {fR : S → (Nat → Nat → Option Nat)} {fF : S → (Nat → UInt32)} {fA : S → (Nat → Nat → Int32)} {fN : S → (Nat → Nat)} {fL : S → (Nat → List Nat)} {fT : S → (Nat → List Int32)} {fJ : S → (Nat → Nat → Int64)} {fD : S → (Nat → Nat → UInt64)} {xK : SX → (Nat → Nat)} {xI : SX → (Nat → Nat → Int32)} {xR : SX → (Nat → Nat → Option Nat)} {xF : SX → (Nat → UInt32)} {xA : SX → (Nat → Nat → Int32)} {xN : SX → (Nat → Nat)} {xL : SX → (Nat → List Nat)} {xT : SX → (Nat → List Int32)} {xJ : SX → (Nat → Nat → Int64)} {xD : SX → (Nat → Nat → UInt64)} {st0 : List Value} {a : Array Value} {mc ms : Nat} (hr : vx_Run p l e R0 s m args below meth c H locs cells slots mc ms (F0 m pc ls st0) rest (va_Qv post (fun u => m_B G (fK u) (fI u) (fR u) (fF u) (fA u) (fN u) (fL u) (fT u) (fJ u) (fD u)) (m_A G) a) (vx_X px (fun E u t => E = ex u ∧ m_B G (xK u) (xI u) (xR u) (xF u) (xA u) (xN u) (xL u) (xT u) (xJ u) (xD u) t) (m_A G)) (m_A G)) (hw : m_wo G K I R F A N L T J D s H locs)
    (kx : ∀ (E : String) (ce : Cell) (q9 : Addr) (u : SX) (H1 : Heap) (locs1 : List Loc), px u ∧ E = ex u → m_wo G (xK u) (xI u) (xR u) (xF u) (xA u) (xN u) (xL u) (xT u) (xJ u) (xD u) s H1 locs1 → H1[q9]? = some ce → ce.vm = .none → s.vm.findClass E = some ce.cls → vx_W p l e R0 s m args below meth c H1 locs1 (cells + mc) (slots + ms) Q (F0 m pc ls rest) q9)
    (kk : ∀ (u : S) (H1 : Heap) (locs1 : List Loc), post u → m_wo G (fK u) (fI u) (fR u) (fF u) (fA u) (fN u) (fL u) (fT u) (fJ u) (fD u) s H1 locs1 → W p l e R0 s m args below meth c H1 locs1 (cells + mc) (slots + ms) Q (F0 m (pc + 3) ls (rest))) : W p l e R0 s m args below meth c H locs cells slots Q (F0 m pc ls st0) :=
  vx_callv hr hw.2.2.2.1 (fun _ _ h => h) (fun _ h => h) (fun _ _ h => h) (fun E ce q9 u t H1 locs1 ht hvm hp hB _ _ hS h1 h2 h3 => kx E ce q9 u H1 locs1 ⟨hp, hB.1⟩ (m_wo_back hw hB.2 ht hS) h1 h2 h3) (fun u t H1 locs1 ht hvm hp hB _ _ hS => kk u H1 locs1 hp (m_wo_back hw hB ht hS))
theorem m_iaload_20 (hexec : p.tables.exec = Jvm.exec) (hb : c.code = cc) {o : Nat} {i : Int32} (hw : m_wo G K I R F A N L T J D s H locs) (hk : K o = 20) (hin : vp_in i (N o)) (hdg : decode cc pc = .ok (.iaload, 1)) (kk : W p l e R0 s m args below meth c H locs cells slots Q (F0 m (pc + 1) ls (.int (A o i.toNatClampNeg) :: rest))) : W p l e R0 s m args below meth c H locs cells slots Q (F0 m pc ls (.int i :: .ref o :: rest)) :=
  va_iald hexec hb hw.1 (m_P1 hw (m_ent_20 hk)) 0 0 rfl rfl hin hdg kk
theorem m_iastore_20 (hexec : p.tables.exec = Jvm.exec) (hb : c.code = cc) {o : Nat} {i : Int32} {x : Int32} (hw : m_wo G K I R F A N L T J D s H locs) (hk : K o = 20) (hin : vp_in i (N o))  (hdg : decode cc pc = .ok (.iastore, 1)) (kk : ∀ (H : Heap) (locs : List Loc), m_wo G K I R F (m_up A o (upd (A o) i.toNatClampNeg x)) N L T J D s H locs → W p l e R0 s m args below meth c H locs cells slots Q (F0 m (pc + 1) ls rest)) : W p l e R0 s m args below meth c H locs cells slots Q (F0 m pc ls (.int x :: .int i :: .ref o :: rest)) := by
  have he := hw.2.2.1.2.1 o _ (m_ent_20 hk)
  refine W.iast hexec hb he ((hw.1.2 0 _ rfl).1 (N o) _) (fun q => by cases q) (by show ¬ (i < 0 ∨ (arrV _ _ _).slots.size ≤ _); rw [arrV_size]; exact hin) rfl rfl hdg fun H1 e1 z oq => ?_
  refine kk H1 _ ⟨hw.1, hw.2.1, m_hp_A (by rw [hk]; decide) hw.2.2.1 (by rw [hk]; decide) (m_ent_20 hk) z oq ?_, hw.2.2.2.1.put z oq (hw.2.2.1.1 o (by rw [hk]; decide)).1, hw.2.2.2.2⟩
  show H1[o]? = some (vp_cell _ _)
  rw [e1, m_up_self]
  rw [vp_cell_i, vp_cell_i, arrV_store]
  congr 2
  funext q
  by_cases hq : q = i.toNatClampNeg
  · subst hq
    simp [updV, upd]
  · simp [updV, upd, hq]
theorem m_iaload_21 (hexec : p.tables.exec = Jvm.exec) (hb : c.code = cc) {o : Nat} {i : Int32} (hw : m_wo G K I R F A N L T J D s H locs) (hk : K o = 21) (hin : vp_in i (N o)) (hdg : decode cc pc = .ok (.iaload, 1)) (kk : W p l e R0 s m args below meth c H locs cells slots Q (F0 m (pc + 1) ls (.int (A o i.toNatClampNeg) :: rest))) : W p l e R0 s m args below meth c H locs cells slots Q (F0 m pc ls (.int i :: .ref o :: rest)) :=
  va_iald hexec hb hw.1 (m_P1 hw (m_ent_21 hk)) 0 0 rfl rfl hin hdg kk
theorem m_iastore_21 (hexec : p.tables.exec = Jvm.exec) (hb : c.code = cc) {o : Nat} {i : Int32} {x : Int32} (hw : m_wo G K I R F A N L T J D s H locs) (hk : K o = 21) (hin : vp_in i (N o))  (hdg : decode cc pc = .ok (.iastore, 1)) (kk : ∀ (H : Heap) (locs : List Loc), m_wo G K I R F (m_up A o (upd (A o) i.toNatClampNeg x)) N L T J D s H locs → W p l e R0 s m args below meth c H locs cells slots Q (F0 m (pc + 1) ls rest)) : W p l e R0 s m args below meth c H locs cells slots Q (F0 m pc ls (.int x :: .int i :: .ref o :: rest)) := by
  have he := hw.2.2.1.2.1 o _ (m_ent_21 hk)
  refine W.iast hexec hb he ((hw.1.2 0 _ rfl).1 (N o) _) (fun q => by cases q) (by show ¬ (i < 0 ∨ (arrV _ _ _).slots.size ≤ _); rw [arrV_size]; exact hin) rfl rfl hdg fun H1 e1 z oq => ?_
  refine kk H1 _ ⟨hw.1, hw.2.1, m_hp_A (by rw [hk]; decide) hw.2.2.1 (by rw [hk]; decide) (m_ent_21 hk) z oq ?_, hw.2.2.2.1.put z oq (hw.2.2.1.1 o (by rw [hk]; decide)).1, hw.2.2.2.2⟩
  show H1[o]? = some (vp_cell _ _)
  rw [e1, m_up_self]
  rw [vp_cell_i, vp_cell_i, arrV_store]
  congr 2
  funext q
  by_cases hq : q = i.toNatClampNeg
  · subst hq
    simp [updV, upd]
  · simp [updV, upd, hq]
theorem m_iaload_22 (hexec : p.tables.exec = Jvm.exec) (hb : c.code = cc) {o : Nat} {i : Int32} (hw : m_wo G K I R F A N L T J D s H locs) (hk : K o = 22) (hin : vp_in i (N o)) (hdg : decode cc pc = .ok (.iaload, 1)) (kk : W p l e R0 s m args below meth c H locs cells slots Q (F0 m (pc + 1) ls (.int (A o i.toNatClampNeg) :: rest))) : W p l e R0 s m args below meth c H locs cells slots Q (F0 m pc ls (.int i :: .ref o :: rest)) :=
  va_iald hexec hb hw.1 (m_P1 hw (m_ent_22 hk)) 0 0 rfl rfl hin hdg kk
theorem m_iastore_22 (hexec : p.tables.exec = Jvm.exec) (hb : c.code = cc) {o : Nat} {i : Int32} {x : Int32} (hw : m_wo G K I R F A N L T J D s H locs) (hk : K o = 22) (hin : vp_in i (N o))  (hdg : decode cc pc = .ok (.iastore, 1)) (kk : ∀ (H : Heap) (locs : List Loc), m_wo G K I R F (m_up A o (upd (A o) i.toNatClampNeg x)) N L T J D s H locs → W p l e R0 s m args below meth c H locs cells slots Q (F0 m (pc + 1) ls rest)) : W p l e R0 s m args below meth c H locs cells slots Q (F0 m pc ls (.int x :: .int i :: .ref o :: rest)) := by
  have he := hw.2.2.1.2.1 o _ (m_ent_22 hk)
  refine W.iast hexec hb he ((hw.1.2 0 _ rfl).1 (N o) _) (fun q => by cases q) (by show ¬ (i < 0 ∨ (arrV _ _ _).slots.size ≤ _); rw [arrV_size]; exact hin) rfl rfl hdg fun H1 e1 z oq => ?_
  refine kk H1 _ ⟨hw.1, hw.2.1, m_hp_A (by rw [hk]; decide) hw.2.2.1 (by rw [hk]; decide) (m_ent_22 hk) z oq ?_, hw.2.2.2.1.put z oq (hw.2.2.1.1 o (by rw [hk]; decide)).1, hw.2.2.2.2⟩
  show H1[o]? = some (vp_cell _ _)
  rw [e1, m_up_self]
  rw [vp_cell_i, vp_cell_i, arrV_store]
  congr 2
  funext q
  by_cases hq : q = i.toNatClampNeg
  · subst hq
    simp [updV, upd]
  · simp [updV, upd, hq]
theorem m_iaload_23 (hexec : p.tables.exec = Jvm.exec) (hb : c.code = cc) {o : Nat} {i : Int32} (hw : m_wo G K I R F A N L T J D s H locs) (hk : K o = 23) (hin : vp_in i (N o)) (hdg : decode cc pc = .ok (.iaload, 1)) (kk : W p l e R0 s m args below meth c H locs cells slots Q (F0 m (pc + 1) ls (.int (A o i.toNatClampNeg) :: rest))) : W p l e R0 s m args below meth c H locs cells slots Q (F0 m pc ls (.int i :: .ref o :: rest)) :=
  va_iald hexec hb hw.1 (m_P1 hw (m_ent_23 hk)) 0 0 rfl rfl hin hdg kk
theorem m_iastore_23 (hexec : p.tables.exec = Jvm.exec) (hb : c.code = cc) {o : Nat} {i : Int32} {x : Int32} (hw : m_wo G K I R F A N L T J D s H locs) (hk : K o = 23) (hin : vp_in i (N o))  (hdg : decode cc pc = .ok (.iastore, 1)) (kk : ∀ (H : Heap) (locs : List Loc), m_wo G K I R F (m_up A o (upd (A o) i.toNatClampNeg x)) N L T J D s H locs → W p l e R0 s m args below meth c H locs cells slots Q (F0 m (pc + 1) ls rest)) : W p l e R0 s m args below meth c H locs cells slots Q (F0 m pc ls (.int x :: .int i :: .ref o :: rest)) := by
  have he := hw.2.2.1.2.1 o _ (m_ent_23 hk)
  refine W.iast hexec hb he ((hw.1.2 0 _ rfl).1 (N o) _) (fun q => by cases q) (by show ¬ (i < 0 ∨ (arrV _ _ _).slots.size ≤ _); rw [arrV_size]; exact hin) rfl rfl hdg fun H1 e1 z oq => ?_
  refine kk H1 _ ⟨hw.1, hw.2.1, m_hp_A (by rw [hk]; decide) hw.2.2.1 (by rw [hk]; decide) (m_ent_23 hk) z oq ?_, hw.2.2.2.1.put z oq (hw.2.2.1.1 o (by rw [hk]; decide)).1, hw.2.2.2.2⟩
  show H1[o]? = some (vp_cell _ _)
  rw [e1, m_up_self]
  rw [vp_cell_i, vp_cell_i, arrV_store]
  congr 2
  funext q
  by_cases hq : q = i.toNatClampNeg
  · subst hq
    simp [updV, upd]
  · simp [updV, upd, hq]
theorem m_iaload_24 (hexec : p.tables.exec = Jvm.exec) (hb : c.code = cc) {o : Nat} {i : Int32} (hw : m_wo G K I R F A N L T J D s H locs) (hk : K o = 24) (hin : vp_in i (N o)) (hdg : decode cc pc = .ok (.iaload, 1)) (kk : W p l e R0 s m args below meth c H locs cells slots Q (F0 m (pc + 1) ls (.int (A o i.toNatClampNeg) :: rest))) : W p l e R0 s m args below meth c H locs cells slots Q (F0 m pc ls (.int i :: .ref o :: rest)) :=
  va_iald hexec hb hw.1 (m_P1 hw (m_ent_24 hk)) 0 0 rfl rfl hin hdg kk
theorem m_iastore_24 (hexec : p.tables.exec = Jvm.exec) (hb : c.code = cc) {o : Nat} {i : Int32} {x : Int32} (hw : m_wo G K I R F A N L T J D s H locs) (hk : K o = 24) (hin : vp_in i (N o))  (hdg : decode cc pc = .ok (.iastore, 1)) (kk : ∀ (H : Heap) (locs : List Loc), m_wo G K I R F (m_up A o (upd (A o) i.toNatClampNeg x)) N L T J D s H locs → W p l e R0 s m args below meth c H locs cells slots Q (F0 m (pc + 1) ls rest)) : W p l e R0 s m args below meth c H locs cells slots Q (F0 m pc ls (.int x :: .int i :: .ref o :: rest)) := by
  have he := hw.2.2.1.2.1 o _ (m_ent_24 hk)
  refine W.iast hexec hb he ((hw.1.2 0 _ rfl).1 (N o) _) (fun q => by cases q) (by show ¬ (i < 0 ∨ (arrV _ _ _).slots.size ≤ _); rw [arrV_size]; exact hin) rfl rfl hdg fun H1 e1 z oq => ?_
  refine kk H1 _ ⟨hw.1, hw.2.1, m_hp_A (by rw [hk]; decide) hw.2.2.1 (by rw [hk]; decide) (m_ent_24 hk) z oq ?_, hw.2.2.2.1.put z oq (hw.2.2.1.1 o (by rw [hk]; decide)).1, hw.2.2.2.2⟩
  show H1[o]? = some (vp_cell _ _)
  rw [e1, m_up_self]
  rw [vp_cell_i, vp_cell_i, arrV_store]
  congr 2
  funext q
  by_cases hq : q = i.toNatClampNeg
  · subst hq
    simp [updV, upd]
  · simp [updV, upd, hq]
theorem m_baload_30 (hexec : p.tables.exec = Jvm.exec) (hb : c.code = cc) {o : Nat} {i : Int32} (hw : m_wo G K I R F A N L T J D s H locs) (hk : K o = 30) (hin : vp_in i (N o)) (hdg : decode cc pc = .ok (.baload, 1)) (kk : W p l e R0 s m args below meth c H locs cells slots Q (F0 m (pc + 1) ls (.int (A o i.toNatClampNeg) :: rest))) : W p l e R0 s m args below meth c H locs cells slots Q (F0 m pc ls (.int i :: .ref o :: rest)) :=
  va_zald hexec hb hw.1 (m_P1 hw (m_ent_30 hk)) 0 1 rfl rfl hin hdg kk
theorem m_bastore_30 (hexec : p.tables.exec = Jvm.exec) (hb : c.code = cc) {o : Nat} {i : Int32} {x : Int32} (hw : m_wo G K I R F A N L T J D s H locs) (hk : K o = 30) (hin : vp_in i (N o)) (hx : x = 0 ∨ x = 1) (hdg : decode cc pc = .ok (.bastore, 1)) (kk : ∀ (H : Heap) (locs : List Loc), m_wo G K I R F (m_up A o (upd (A o) i.toNatClampNeg x)) N L T J D s H locs → W p l e R0 s m args below meth c H locs cells slots Q (F0 m (pc + 1) ls rest)) : W p l e R0 s m args below meth c H locs cells slots Q (F0 m pc ls (.int x :: .int i :: .ref o :: rest)) := by
  have he := hw.2.2.1.2.1 o _ (m_ent_30 hk)
  refine W.zast hexec hb he ((hw.1.2 1 _ rfl).1 (N o) _) (fun q => by cases q) (by show ¬ (i < 0 ∨ (arrV _ _ _).slots.size ≤ _); rw [arrV_size]; exact hin) rfl rfl hdg fun H1 e1 z oq => ?_
  refine kk H1 _ ⟨hw.1, hw.2.1, m_hp_A (by rw [hk]; decide) hw.2.2.1 (by rw [hk]; decide) (m_ent_30 hk) z oq ?_, hw.2.2.2.1.put z oq (hw.2.2.1.1 o (by rw [hk]; decide)).1, hw.2.2.2.2⟩
  show H1[o]? = some (vp_cell _ _)
  rw [e1, m_up_self]
  rw [vp_cell_i, vp_cell_i, arrV_store]
  congr 2
  funext q
  by_cases hq : q = i.toNatClampNeg
  · subst hq
    rcases hx with rfl | rfl <;> (simp [updV, upd]; try rfl)
  · simp [updV, upd, hq]
theorem m_caload_34 (hexec : p.tables.exec = Jvm.exec) (hb : c.code = cc) {o : Nat} {i : Int32} (hw : m_wo G K I R F A N L T J D s H locs) (hk : K o = 34) (hin : vp_in i (N o)) (hdg : decode cc pc = .ok (.caload, 1)) (kk : W p l e R0 s m args below meth c H locs cells slots Q (F0 m (pc + 1) ls (.int (A o i.toNatClampNeg) :: rest))) : W p l e R0 s m args below meth c H locs cells slots Q (F0 m pc ls (.int i :: .ref o :: rest)) :=
  va_cald hexec hb hw.1 (m_P1 hw (m_ent_34 hk)) 0 2 rfl rfl hin hdg kk
theorem m_castore_34 (hexec : p.tables.exec = Jvm.exec) (hb : c.code = cc) {o : Nat} {i : Int32} {x : Int32} (hw : m_wo G K I R F A N L T J D s H locs) (hk : K o = 34) (hin : vp_in i (N o)) (hx : narrow .char (.int x) = .int x) (hdg : decode cc pc = .ok (.castore, 1)) (kk : ∀ (H : Heap) (locs : List Loc), m_wo G K I R F (m_up A o (upd (A o) i.toNatClampNeg x)) N L T J D s H locs → W p l e R0 s m args below meth c H locs cells slots Q (F0 m (pc + 1) ls rest)) : W p l e R0 s m args below meth c H locs cells slots Q (F0 m pc ls (.int x :: .int i :: .ref o :: rest)) := by
  have he := hw.2.2.1.2.1 o _ (m_ent_34 hk)
  refine W.cast hexec hb he ((hw.1.2 2 _ rfl).1 (N o) _) (fun q => by cases q) (by show ¬ (i < 0 ∨ (arrV _ _ _).slots.size ≤ _); rw [arrV_size]; exact hin) rfl rfl hdg fun H1 e1 z oq => ?_
  refine kk H1 _ ⟨hw.1, hw.2.1, m_hp_A (by rw [hk]; decide) hw.2.2.1 (by rw [hk]; decide) (m_ent_34 hk) z oq ?_, hw.2.2.2.1.put z oq (hw.2.2.1.1 o (by rw [hk]; decide)).1, hw.2.2.2.2⟩
  show H1[o]? = some (vp_cell _ _)
  rw [e1, m_up_self]
  rw [vp_cell_i, vp_cell_i, arrV_store]
  congr 2
  funext q
  by_cases hq : q = i.toNatClampNeg
  · subst hq
    simp [updV, upd, hx]
  · simp [updV, upd, hq]
theorem m_laload_35 (hexec : p.tables.exec = Jvm.exec) (hb : c.code = cc) {o : Nat} {i : Int32} (hw : m_wo G K I R F A N L T J D s H locs) (hk : K o = 35) (hin : vp_in i (N o)) (hdg : decode cc pc = .ok (.laload, 1)) (kk : W p l e R0 s m args below meth c H locs cells slots Q (F0 m (pc + 1) ls (.long (J o i.toNatClampNeg) :: rest))) : W p l e R0 s m args below meth c H locs cells slots Q (F0 m pc ls (.int i :: .ref o :: rest)) :=
  va_lald hexec hb hw.1 (m_P1 hw (m_ent_35 hk)) 0 3 rfl rfl hin hdg kk
theorem m_lastore_35 (hexec : p.tables.exec = Jvm.exec) (hb : c.code = cc) {o : Nat} {i : Int32} {x : Int64} (hw : m_wo G K I R F A N L T J D s H locs) (hk : K o = 35) (hin : vp_in i (N o))  (hdg : decode cc pc = .ok (.lastore, 1)) (kk : ∀ (H : Heap) (locs : List Loc), m_wo G K I R F A N L T (m_up J o (vp_updL (J o) i.toNatClampNeg x)) D s H locs → W p l e R0 s m args below meth c H locs cells slots Q (F0 m (pc + 1) ls rest)) : W p l e R0 s m args below meth c H locs cells slots Q (F0 m pc ls (.long x :: .int i :: .ref o :: rest)) := by
  have he := hw.2.2.1.2.1 o _ (m_ent_35 hk)
  refine W.last hexec hb he ((hw.1.2 3 _ rfl).1 (N o) _) (fun q => by cases q) (by show ¬ (i < 0 ∨ (arrV _ _ _).slots.size ≤ _); rw [arrV_size]; exact hin) rfl rfl hdg fun H1 e1 z oq => ?_
  refine kk H1 _ ⟨hw.1, hw.2.1, m_hp_J hw.2.2.1 (by rw [hk]; decide) (m_ent_35 hk) z oq ?_, hw.2.2.2.1.put z oq (hw.2.2.1.1 o (by rw [hk]; decide)).1, hw.2.2.2.2⟩
  show H1[o]? = some (vp_cell _ _)
  rw [e1, m_up_self]
  rw [vp_cell_l, vp_cell_l, arrV_store]
  congr 2
  funext q
  by_cases hq : q = i.toNatClampNeg
  · subst hq
    simp [updV, vp_updL]
  · simp [updV, vp_updL, hq]
theorem m_daload_36 (hexec : p.tables.exec = Jvm.exec) (hb : c.code = cc) {o : Nat} {i : Int32} (hw : m_wo G K I R F A N L T J D s H locs) (hk : K o = 36) (hin : vp_in i (N o)) (hdg : decode cc pc = .ok (.daload, 1)) (kk : W p l e R0 s m args below meth c H locs cells slots Q (F0 m (pc + 1) ls (.double (D o i.toNatClampNeg) :: rest))) : W p l e R0 s m args below meth c H locs cells slots Q (F0 m pc ls (.int i :: .ref o :: rest)) :=
  va_dald hexec hb hw.1 (m_P1 hw (m_ent_36 hk)) 0 4 rfl rfl hin hdg kk
theorem m_dastore_36 (hexec : p.tables.exec = Jvm.exec) (hb : c.code = cc) {o : Nat} {i : Int32} {x : UInt64} (hw : m_wo G K I R F A N L T J D s H locs) (hk : K o = 36) (hin : vp_in i (N o))  (hdg : decode cc pc = .ok (.dastore, 1)) (kk : ∀ (H : Heap) (locs : List Loc), m_wo G K I R F A N L T J (m_up D o (vf_upd (D o) i.toNatClampNeg x)) s H locs → W p l e R0 s m args below meth c H locs cells slots Q (F0 m (pc + 1) ls rest)) : W p l e R0 s m args below meth c H locs cells slots Q (F0 m pc ls (.double x :: .int i :: .ref o :: rest)) := by
  have he := hw.2.2.1.2.1 o _ (m_ent_36 hk)
  refine W.dast hexec hb he ((hw.1.2 4 _ rfl).1 (N o) _) (fun q => by cases q) (by show ¬ (i < 0 ∨ (arrV _ _ _).slots.size ≤ _); rw [arrV_size]; exact hin) rfl rfl hdg fun H1 e1 z oq => ?_
  refine kk H1 _ ⟨hw.1, hw.2.1, m_hp_D hw.2.2.1 (by rw [hk]; decide) (m_ent_36 hk) z oq ?_, hw.2.2.2.1.put z oq (hw.2.2.1.1 o (by rw [hk]; decide)).1, hw.2.2.2.2⟩
  show H1[o]? = some (vp_cell _ _)
  rw [e1, m_up_self]
  rw [vp_cell_d, vp_cell_d, arrV_store]
  congr 2
  funext q
  by_cases hq : q = i.toNatClampNeg
  · subst hq
    simp [updV, vf_upd]
  · simp [updV, vf_upd, hq]
theorem m_alen_20 (hexec : p.tables.exec = Jvm.exec) (hb : c.code = cc) {o : Nat} (hw : m_wo G K I R F A N L T J D s H locs) (hk : K o = 20) (hdg : decode cc pc = .ok (.arraylength, 1)) (kk : W p l e R0 s m args below meth c H locs cells slots Q (F0 m (pc + 1) ls (.int (nI (N o)) :: rest))) : W p l e R0 s m args below meth c H locs cells slots Q (F0 m pc ls (.ref o :: rest)) :=
  va_alen hexec hb hw.1 (m_P1 hw (m_ent_20 hk)) 0 0 rfl rfl rfl hdg kk
theorem m_alen_21 (hexec : p.tables.exec = Jvm.exec) (hb : c.code = cc) {o : Nat} (hw : m_wo G K I R F A N L T J D s H locs) (hk : K o = 21) (hdg : decode cc pc = .ok (.arraylength, 1)) (kk : W p l e R0 s m args below meth c H locs cells slots Q (F0 m (pc + 1) ls (.int (nI (N o)) :: rest))) : W p l e R0 s m args below meth c H locs cells slots Q (F0 m pc ls (.ref o :: rest)) :=
  va_alen hexec hb hw.1 (m_P1 hw (m_ent_21 hk)) 0 0 rfl rfl rfl hdg kk
theorem m_alen_22 (hexec : p.tables.exec = Jvm.exec) (hb : c.code = cc) {o : Nat} (hw : m_wo G K I R F A N L T J D s H locs) (hk : K o = 22) (hdg : decode cc pc = .ok (.arraylength, 1)) (kk : W p l e R0 s m args below meth c H locs cells slots Q (F0 m (pc + 1) ls (.int (nI (N o)) :: rest))) : W p l e R0 s m args below meth c H locs cells slots Q (F0 m pc ls (.ref o :: rest)) :=
  va_alen hexec hb hw.1 (m_P1 hw (m_ent_22 hk)) 0 0 rfl rfl rfl hdg kk
theorem m_alen_23 (hexec : p.tables.exec = Jvm.exec) (hb : c.code = cc) {o : Nat} (hw : m_wo G K I R F A N L T J D s H locs) (hk : K o = 23) (hdg : decode cc pc = .ok (.arraylength, 1)) (kk : W p l e R0 s m args below meth c H locs cells slots Q (F0 m (pc + 1) ls (.int (nI (N o)) :: rest))) : W p l e R0 s m args below meth c H locs cells slots Q (F0 m pc ls (.ref o :: rest)) :=
  va_alen hexec hb hw.1 (m_P1 hw (m_ent_23 hk)) 0 0 rfl rfl rfl hdg kk
theorem m_alen_24 (hexec : p.tables.exec = Jvm.exec) (hb : c.code = cc) {o : Nat} (hw : m_wo G K I R F A N L T J D s H locs) (hk : K o = 24) (hdg : decode cc pc = .ok (.arraylength, 1)) (kk : W p l e R0 s m args below meth c H locs cells slots Q (F0 m (pc + 1) ls (.int (nI (N o)) :: rest))) : W p l e R0 s m args below meth c H locs cells slots Q (F0 m pc ls (.ref o :: rest)) :=
  va_alen hexec hb hw.1 (m_P1 hw (m_ent_24 hk)) 0 0 rfl rfl rfl hdg kk
theorem m_aload_nQ (hexec : p.tables.exec = Jvm.exec) (hb : c.code = cc) {k : Fin 4} {i : Nat} {x : Option Nat} (hdg : decode cc pc = .ok (.aload_n k, 1)) (hi : (k : Nat) = i) (hl : ls[i]? = some (.val (va_rf x))) (kk : W p l e R0 s m args below meth c H locs cells slots Q (F0 m (pc + 1) ls (va_rf x :: rest))) : W p l e R0 s m args below meth c H locs cells slots Q (F0 m pc ls rest) := by
  cases x with
  | none => exact lv_aload_nN hexec hb hdg hi hl kk
  | some x => exact lv_aload_n hexec hb hdg hi hl kk
theorem m_aloadQ (hexec : p.tables.exec = Jvm.exec) (hb : c.code = cc) {i : Nat} {x : Option Nat} (hdg : decode cc pc = .ok (.aload i, 2)) (hl : ls[i]? = some (.val (va_rf x))) (kk : W p l e R0 s m args below meth c H locs cells slots Q (F0 m (pc + 2) ls (va_rf x :: rest))) : W p l e R0 s m args below meth c H locs cells slots Q (F0 m pc ls rest) := by
  cases x with
  | none => exact lv_aloadN hexec hb hdg hl kk
  | some x => exact lv_aload hexec hb hdg hl kk
theorem m_astore_nQ (hexec : p.tables.exec = Jvm.exec) (hb : c.code = cc) {k : Fin 4} {i nL : Nat} {x : Option Nat} {lv lv' : List (Nat × Value)} (hdg : decode cc pc = .ok (.astore_n k, 1)) (hi : (k : Nat) = i) (h : lv_has ls nL lv) (hn : i < nL) (hl : (i, va_rf x) :: lv.filter (fun q => !(q.1 == i) && !(q.1 + 1 == i && q.2.category == 2)) = lv') (kk : ∀ ls' : Array Slot, lv_has ls' nL lv' → W p l e R0 s m args below meth c H locs cells slots Q (F0 m (pc + 1) ls' rest)) : W p l e R0 s m args below meth c H locs cells slots Q (F0 m pc ls (va_rf x :: rest)) := by
  cases x with
  | none => exact lv_astore_nN hexec hb hdg hi h hn hl kk
  | some x => exact lv_astore_n hexec hb hdg hi h hn hl kk
theorem m_astoreQ (hexec : p.tables.exec = Jvm.exec) (hb : c.code = cc) {i nL : Nat} {x : Option Nat} {lv lv' : List (Nat × Value)} (hdg : decode cc pc = .ok (.astore i, 2)) (h : lv_has ls nL lv) (hn : i < nL) (hl : (i, va_rf x) :: lv.filter (fun q => !(q.1 == i) && !(q.1 + 1 == i && q.2.category == 2)) = lv') (kk : ∀ ls' : Array Slot, lv_has ls' nL lv' → W p l e R0 s m args below meth c H locs cells slots Q (F0 m (pc + 2) ls' rest)) : W p l e R0 s m args below meth c H locs cells slots Q (F0 m pc ls (va_rf x :: rest)) := by
  cases x with
  | none => exact lv_astoreN hexec hb hdg h hn hl kk
  | some x => exact lv_astore hexec hb hdg h hn hl kk
end MR2
