/-! throws and the class's world -/
section TSXT
variable {p : Program} {l : Launch} {e : Env} {R : Room} {s : State} {m : MethodId} {args : Array Value} {below : List Frame} {meth : Method} {c : Code} {H : Heap} {locs : List Loc} {cells slots : Nat} {Q : State → Prop}
variable {y : MethodName} {bytes cc : ByteArray} {maxL nL mc ms n index : Nat} {ret : Option FieldType} {wsy : List Cond} {rm : Room} {Ts : List Cond} {own EN : String} {As rest st0 : List Value} {pc : Nat} {ls : Array Slot} {S : Type} {px : S → Prop} {mk : S → va_W} {D : va_G} {cl : List vw_C} {tys : List (ClassId × FieldType)} {A : Nat → Prop} {cL cA cI cZ : ClassId} {o sA : Nat} {w a : Nat → Nat} {f : Nat → Nat → Int64}
theorem ts_callXT {g : S → Nat → Nat → Int64} (F : CallFix p m c cc nL s args Ts own)
    (hM : vx_Met l y wsy rm (va_Pc (.ref o :: As) (fun U => ts_A D vwCl (ts_ty cL cA cI cZ) (ts_w cL cA o sA w a f) H.size U ∧ ts_KX (va_A (ts_w cL cA o sA w a f) H.size) U)) (fun _ _ _ _ => False) (ts_X EN px (fun u => ts_B D vwCl (ts_ty cL cA cI cZ) (va_A (ts_w cL cA o sA w a f) H.size) (ts_w cL cA o sA w a (g u))) (va_A (ts_w cL cA o sA w a f) H.size)) mc ms (va_A (ts_w cL cA o sA w a f) H.size))
    (cw : CallW R s args own R_T index y bytes maxL ret wsy rm mc ms n) (hK : va_K D vwCl (ts_ty cL cA cI cZ) s) (hKX : ts_KX A s) (hP : va_P D vwCl (ts_w cL cA o sA w a f) H) (hD : va_D A (ts_w cL cA o sA w a f)) (hS : va_S A s.heap H locs) (hA : ∀ q, s.heap.size ≤ q → A q) (hz : ls.size = nL)
    (hlen : As.length = n) (hst : st0 = As.reverse ++ .ref o :: rest) (hroom : (rest.map fun v => v.category).sum ≤ 8) (hdg : decode cc pc = .ok (.invokevirtual index, 3)) (hf : cells + mc ≤ R.cells ∧ slots + ms ≤ R.slots)
    (kx : ∀ (ce : Cell) (q9 : Addr) (u : S) (H1 : Heap) (locs1 : List Loc), px u → va_P D vwCl (ts_w cL cA o sA w a (g u)) H1 → va_D A (ts_w cL cA o sA w a (g u)) → va_S A s.heap H1 locs1 → H1[q9]? = some ce → ce.vm = .none → s.vm.findClass EN = some ce.cls → vx_W p l e R s m args below meth c H1 locs1 (cells + mc) (slots + ms) Q (F0 m pc ls rest) q9) :
    W p l e R s m args below meth c H locs cells slots Q (F0 m pc ls st0) :=
  ts_callXV F hM cw hK hKX hP hD hS hA hz ts_all (by decide) ts_allE (va_recv hK hP (ci := 1) (q0 := 0) rfl rfl) (fun u => rfl) hlen hst hroom hdg hf (fun ce q9 u H1 locs1 h1 h2 h3 h4 h5 h6 h7 => by
    rw [ts_allS] at h2 h3
    exact kx ce q9 u H1 locs1 h1 h2 h3 h4 h5 h6 h7)
theorem ts_thrown {u : S} (hK : va_K D cl tys s) (hP : va_P D cl (mk u) H) (hD : va_D A (mk u)) (hS : va_S A s.heap H locs) (hpx : px u) : ∀ t : State, s.vm.Alike t.vm → H.size ≤ t.heap.size → (∀ q : Nat, q < H.size → t.heap[q]? = H[q]?) → ts_X EN px (fun u => ts_B D cl tys A (mk u)) A EN s t :=
  fun t hvm hz hk => ⟨rfl, ⟨u, hpx, hP.kept (fun k x hx => hk x.1 ((hP k x hx).lt)), va_K.moved hvm hK, hD⟩, Nat.le_trans hS.1 hz, fun q h1 h2 => (hk q (Nat.lt_of_lt_of_le h1 hS.1)).trans (hS.2.1 q h1 h2)⟩
end TSXT
