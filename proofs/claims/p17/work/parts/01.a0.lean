theorem kt_wide0 : True := by
  have _h := @DS.facts
  trivial
