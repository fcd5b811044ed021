import java.math.BigInteger;

/** The digest, promise 26, from the other answers, as the document lists them. */
public final class DigestTest {
  public static void main(String[] args) {
    Check.sentence("The hash starts at 2207. For each value v of the following list, in order, the "
        + "hash becomes 31 * hash + v, in long arithmetic with overflow.", () -> {
      isHash("a new object", SettlingJars::new, "");
      isHash("some grains", Make::busy, "7b@6+1c");
      isHash("full jars", Make::brimful,
          "999a+999b+999c+999d+999a@1+999b@1+999c@1+999d@10+999a@1+1b@1");
    });
    Check.sentence("the settings 0 to 3; for each class its accounts 0 to 3; for each jar its "
        + "properties 0 to 9, for each of its slices its properties 0 to 9, purest of the classes 0 "
        + "to 3, clearIn of 3 slices, restIn, and the bits of meanDepth", () -> {
      for (int k = 0; k < 24; k++) {
        int changes = k;
        isHash("changed by " + k, () -> changed(changes), "7b@6+1c");
      }
    });
    Check.sentence("the bits of meanDepth (as Double.doubleToLongBits)", () -> {
      for (int many = 1; many <= 5000; many = many * 3 / 2 + 1) {
        int all = many;
        isHash(many + " grains", () -> deep(all), "");
        isHash(many + " grains, turned", () -> turned(deep(all)), "");
      }
    });
    Check.sentence("the length of the buffer and each of its character codes.", () -> {
      String[] texts = {"!", "~", "!~", "~!", "7".repeat(59), "7".repeat(60)};
      for (String text : texts) {
        isHash(text, () -> Make.typed(text), text);
      }
      SettlingJars x = Make.typed("7a!");
      x.clearBuffer();
      Check.same("a cleared buffer", new SettlingJars().digest(), x.digest());
    });
    Check.sentence("count(0) to count(5)", () -> {
      SettlingJars x = new SettlingJars();
      x.settle(1);
      long before = x.digest();
      Check.same("asked twice", before, x.digest());
      x.set(0, 100);
      Check.holds("a saved state alone makes another digest", before != x.digest());
      x.undo();
      Check.same("without it", before, x.digest());
    });
    Check.end("DigestTest");
  }

  /** Busy jars with so many changes of all kinds, so that no two of the values stay alike. */
  private static SettlingJars changed(int changes) {
    SettlingJars x = Make.busy();
    for (int k = 0; k < changes; k++) {
      x.set(k % 4, 10 * (k % 4 == 1 ? k + 5 : 0) + k % 7);
      x.setSpeed(k % 4, 3 * k + 1);
      x.pour(k % 3, k % 12, (k + 1) % 4, 20 + 9 * k);
      x.draw((k + 1) % 3, k % 12, 1 + 4 * k);
      x.settle(1 + k % 2);
    }
    return x;
  }

  /** Grains at the bottom, but for one. */
  private static SettlingJars deep(int many) {
    SettlingJars x = new SettlingJars();
    Make.fill(x, 1, many - 1);
    x.pour(1, many % 12, 0, 1);
    return x;
  }

  private static SettlingJars turned(SettlingJars x) {
    x.turn(1);
    return x;
  }

  private static void isHash(String what, Make.Maker maker, String buffer) {
    Check.same(what, hash(maker, buffer), maker.make().digest());
  }

  /** In great numbers, that do not overflow; each part from an object that is not yet used up. */
  static long hash(Make.Maker maker, String buffer) {
    BigInteger[] hash = {BigInteger.valueOf(2207)};
    addNumbers(hash, maker.make());
    for (int jar = 0; jar < 3; jar++) {
      addJar(hash, maker.make(), jar);
    }
    add(hash, buffer.length());
    for (int k = 0; k < buffer.length(); k++) {
      add(hash, buffer.charAt(k));
    }
    return hash[0].longValue();
  }

  private static void addNumbers(BigInteger[] hash, SettlingJars x) {
    for (int what = 0; what <= 5; what++) {
      add(hash, x.count(what));
    }
    for (int setting = 0; setting <= 3; setting++) {
      add(hash, x.setting(setting));
    }
    for (int k = 0; k < 16; k++) {
      add(hash, x.grains(k / 4, k % 4));
    }
  }

  private static void addJar(BigInteger[] hash, SettlingJars x, int jar) {
    for (int what = 0; what <= 9; what++) {
      add(hash, x.jar(jar, what));
    }
    for (int k = 0; k < 120; k++) {
      add(hash, x.slice(jar, k / 10, k % 10));
    }
    for (int grain = 0; grain <= 3; grain++) {
      add(hash, x.purest(jar, grain));
    }
    add(hash, x.clearIn(jar, 3));
    add(hash, x.restIn(jar));
    add(hash, Double.doubleToLongBits(x.meanDepth(jar)));
  }

  private static void add(BigInteger[] hash, long value) {
    hash[0] = hash[0].multiply(BigInteger.valueOf(31)).add(BigInteger.valueOf(value));
  }
}
