/-! new int[n][m] -/
section CTM
variable {p : Program} {l : Launch} {e : Env} {R : Room} {s : State} {m : MethodId} {args : Array Value} {below : List Frame} {meth : Method} {c : Code} {H : Heap} {locs : List Loc} {cells slots : Nat} {Q : State → Prop}
variable {cc : ByteArray} {nL : Nat} {own : String} {Ts : List Cond} {pc : Nat} {ls : Array Slot} {st : List Value} {D : va_G} {cy : Nat → ClassId} {h : Nat} {es : List va_E}
theorem rc_mna {n N K idx : Nat} {x y : Int32} (hC : CtX p s m args c cc nL own Ts D cy h) (hL : Lay D h es H) (hS : va_S (fun q => h ≤ q) s.heap H locs) (hcl : Cond.classLink own idx "[[I" ∈ Gw) (hx0 : ¬ x < 0) (hy0 : ¬ y < 0) (hN : x.toNatClampNeg = N) (hK : y.toNatClampNeg = K) (hb1 : N * 4 ≤ 536870912) (hb2 : K * 4 ≤ 536870912) (hn : h + es.length = n) (hcells : cells + (1 + N) ≤ R.cells) (hslots : slots + (N + N * K) ≤ R.slots) (hdg : decode cc pc = .ok (.multianewarray idx 2, 4))
    (kk : ∀ H1 : Heap, Lay D h (es ++ eG cy n N K) H1 → va_S (fun q => h ≤ q) s.heap H1 locs → W p l e R s m args below meth c H1 locs (cells + 1 + N) (slots + N + N * K) Q (F0 m (pc + 4) ls (.ref n :: st))) : W p l e R s m args below meth c H locs cells slots Q (F0 m pc ls (.int y :: .int x :: st)) := by
  obtain ⟨⟨hx, hb, hml, hown, hts⟩, hG, hKK, hAO, hle⟩ := hC
  have hg : ∀ w ∈ Gw, w.before args s = true := fun w hw => hts w (hG w hw)
  have hz : H.size = n := hL.1.trans hn
  refine wm_mna (N := N) (K := K) hx hb hown (hg _ hcl) hAO (hg _ (inG1 rfl (List.mem_of_getElem? (i := 93) rfl))) hx0 hy0 hN hK hb1 hb2 hcells hslots hdg (fun H1 cA cI fA fI z1 g1 g2 o1 => ?_)
  have eA : cA = cy 14 := Option.some.inj (fA.symm.trans (hKK.2 4 _ rfl).2)
  have eI_ : cI = cy 11 := Option.some.inj (fI.symm.trans (hKK.2 1 _ rfl).2)
  subst eA
  subst eI_
  rw [hz] at z1 g1 g2 o1 ⊢
  refine kk H1 (Lay.app hL.2 ?_ (fun q hq => o1 q (by omega))) (hS.more (by omega) (fun q hq => o1 q (by omega)))
  rw [hn]
  refine ⟨by rw [z1]; unfold eG; rw [List.length_cons, List.length_replicate]; omega, fun k x hxk => ?_⟩
  unfold eG at hxk
  cases k with
  | zero =>
    cases hxk
    exact g1
  | succ k =>
    rw [List.getElem?_cons_succ, List.getElem?_replicate] at hxk
    by_cases hk : k < N
    · rw [if_pos hk] at hxk
      cases hxk
      have q := g2 k hk
      rw [show n + 1 + k = n + (k + 1) by omega] at q
      exact q
    · rw [if_neg hk] at hxk
      cases hxk
end CTM
