/** What the tests share: they tell what is wrong, and count it. */
final class Check {
  private static int wrong = 0;
  private static String sentence = "";
  private static String document = "";

  private Check() {
  }

  /** A call of the face that may throw. */
  interface Call {
    void run();
  }

  /** The test of one sentence of the document; what is wrong is told under the sentence's words. */
  static void sentence(String words, Call test) {
    sentence = "\"" + words + "\": ";
    if (document.isEmpty()) {
      document = Source.inOneLine(Source.document());
    }
    holds("the document has no such words", document.contains(words));
    try {
      test.run();
    } catch (RuntimeException e) {
      tell("ended with " + e);
    }
    sentence = "";
  }

  static void same(String what, long want, long got) {
    if (want != got) {
      tell(what + " answered " + got + ", due is " + want);
    }
  }

  static void holds(String what, boolean right) {
    if (!right) {
      tell(what);
    }
  }

  static void sameBits(String what, double want, double got) {
    if (Double.doubleToRawLongBits(want) != Double.doubleToRawLongBits(got)) {
      tell(what + " answered " + got + ", due is " + want);
    }
  }

  /** The call throws just this exception and changes nothing, neither the state nor the buffer. */
  static void refuses(String what, SettlingJars x, Class<?> kind, Call call) {
    long before = x.digest();
    throwsJust(what, kind, call);
    same(what + ": the digest behind it", before, x.digest());
  }

  static void throwsJust(String what, Class<?> kind, Call call) {
    Class<?> thrown = null;
    try {
      call.run();
    } catch (RuntimeException e) {
      thrown = e.getClass();
    }
    if (thrown != kind) {
      tell(what + " throws " + thrown + ", due is " + kind);
    }
  }

  static void refusesIndex(String what, SettlingJars x, Call call) {
    refuses(what, x, IndexOutOfBoundsException.class, call);
  }

  static void refusesArgument(String what, SettlingJars x, Call call) {
    refuses(what, x, IllegalArgumentException.class, call);
  }

  static void refusesState(String what, SettlingJars x, Call call) {
    refuses(what, x, IllegalStateException.class, call);
  }

  static void tell(String text) {
    wrong++;
    if (wrong <= 50) {
      System.out.println(sentence + text);
    }
  }

  /** To be called last: ends the program with exit code 1 if anything was wrong. */
  static void end(String name) {
    System.out.println(name + ": " + wrong + " wrong");
    if (wrong > 0) {
      System.exit(1);
    }
  }
}
