theorem cc_first : True := trivial
