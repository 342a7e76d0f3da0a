/-! The same opening for a method of a class that the machine has entries for, where it has none for this method. -/
section CM2
variable {l : Launch} {y : MethodName} {cc : ByteArray} {n : Nat} {r : Option FieldType} {rm : Room} {D : va_G} {tys : List (ClassId × FieldType)} {av : List Value} {wc w1 : va_W} {v : Value} {ans : Option Value}
theorem pMet_ofF (hy : plainFor y = true) (hn : (lg_sl av).length ≤ n)
    (body : ∀ p e s m below meth c, p.tables.exec = Jvm.exec → c.code = cc → meth.sig.returnType = r → s.vm.findClass y.cls = some m.cls → meth.locks = false → c.maxLocals = n → tk s → va_K D vwCl tys s → va_P D vwCl wc s.heap → va_D (fun _ => True) wc →
      ∀ ls : Array Slot, lv_has ls n (lv_args 0 av) → W p l e rm s m av.toArray below meth c s.heap [] 0 0 (MQ below (pQ v) av.toArray s 0 0 (fun _ => False)) (F0 m 0 ls [])) : pMet l y cc n r rm D tys av wc v := by
  refine va_MetF (cc := cc) (maxL := n) (ret := r) hy rfl ?_
  intro p e s m args below meth c s₁ B hml hv
  obtain ⟨rfl, h1, h2, h3, h4⟩ := hv
  have hl := lv_entry av (n := n) hn
  rw [lg_entry_eq]
  exact body p e s m below meth c B.exec B.bytes B.returns (findClass_of_methodNamed B.named) B.notSynchronized hml h1 h2 h3 h4 _ hl
end CM2
