/-- the instruction of method mi at pc -/
def sm_cd (mi pc : Nat) : Option sm_E := match sm_M[mi]? with
  | some q => q.2.2.2.2.2.lookup pc
  | none => none
def sm_ret (mi : Nat) : Option FieldType := match sm_M[mi]? with
  | some q => q.2.2.2.1
  | none => none
def sm_mxl (mi : Nat) : Nat := match sm_M[mi]? with
  | some q => q.2.2.1
  | none => 0
def sm_cls (mi : Nat) : Nat := match sm_M[mi]? with
  | some q => q.2.2.2.2.1
  | none => 0
