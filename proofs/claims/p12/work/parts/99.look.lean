theorem zz_look : True := by
  have h1 := @L_sound
  have h2 := @c_isTold
  have h3 := @c_isDivided
  trivial
