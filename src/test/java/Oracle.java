class Oracle {}
