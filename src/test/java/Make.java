/** Jars that the tests begin with. */
final class Make {
  private Make() {
  }

  /** Makes the same object each time. */
  interface Maker {
    SettlingJars make();
  }

  /** Grains of all classes fall as fast as there is room: a step takes all that fit. */
  static SettlingJars fast() {
    SettlingJars x = new SettlingJars();
    x.set(0, 0);
    for (int grain = 0; grain < 4; grain++) {
      x.setSpeed(grain, 100);
    }
    return x;
  }

  /** Of each class one grain at a time falls from a slice, of up to 1000 grains; all fit. */
  static SettlingJars slow() {
    SettlingJars x = new SettlingJars();
    x.set(0, 1000);
    x.set(1, 1000);
    x.set(2, 0);
    for (int grain = 0; grain < 4; grain++) {
      x.setSpeed(grain, 1);
    }
    return x;
  }

  /** A few grains in each jar, as many saved states as can be, a whole charge in the buffer. */
  static SettlingJars busy() {
    SettlingJars x = new SettlingJars();
    type(x, "40a+30b@3+20c@7+10d@11");
    x.load(0);
    type(x, "5d@5+9a@10");
    x.load(1);
    x.pour(2, 0, 2, 31);
    x.settle(3);
    x.draw(0, 3, 40);
    x.stir(2, 0, 5);
    x.set(2, 4);
    type(x, "7b@6+1c");
    return x;
  }

  /** Nothing goes in any more: full jars, all steps gone, a full buffer, all states saved. */
  static SettlingJars brimful() {
    SettlingJars x = new SettlingJars();
    for (int k = 0; k < 100; k++) {
      x.settle(100);
    }
    for (int jar = 0; jar < 3; jar++) {
      fill(x, jar, 5000);
    }
    type(x, "999a+999b+999c+999d+999a@1+999b@1+999c@1+999d@10+999a@1+1b@1");
    return x;
  }

  /** Pours so many grains into the lowest slice of a jar. */
  static void fill(SettlingJars x, int jar, int many) {
    for (int left = many; left > 0; left -= 999) {
      x.pour(jar, 11, 3, Math.min(left, 999));
    }
  }

  static void type(SettlingJars x, String text) {
    for (int k = 0; k < text.length(); k++) {
      x.append(text.charAt(k));
    }
  }

  static SettlingJars typed(String text) {
    SettlingJars x = new SettlingJars();
    type(x, text);
    return x;
  }

  /** Each undoable call, as it goes with what busy has; a step is the last but one. */
  static Check.Call[] deeds(SettlingJars x) {
    return new Check.Call[] {() -> x.set(0, 7), () -> x.setSpeed(1, 99), () -> x.pour(0, 1, 2, 3),
        () -> x.stir(0, 0, 11), () -> x.draw(1, 10, 50), () -> x.decant(1, 0, 5), () -> x.turn(1),
        () -> x.settle(2), () -> x.load(2)};
  }

  /** All that can be seen of an object, its saved states too; the object is used up by this. */
  static long[] trace(SettlingJars x) {
    long[] seen = new long[1 + x.count(5)];
    seen[0] = x.digest();
    for (int k = 1; k < seen.length; k++) {
      x.undo();
      seen[k] = x.digest();
    }
    return seen;
  }
}
