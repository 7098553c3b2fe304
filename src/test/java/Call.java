/** A call of a desk, for tests that make it on several desks. */
interface Call {
  Object on(AbbreviationDesk desk) throws Exception;
}
