/** The boundary cases of the document's terms, but for the texts: a test for each sentence. */
public final class TermsTest {
  private static final int NONE = SettlingJars.NONE;

  public static void main(String[] args) {
    things();
    settings();
    falling();
    layers();
    accounts();
    Check.end("TermsTest");
  }

  private static void things() {
    Check.sentence("`NONE = -1`", () -> Check.same("NONE", -1, NONE));
    Check.sentence("divisions are truncated toward 0.", TermsTest::truncated);
    Check.sentence("There are 3 jars, numbered from 0.", TermsTest::threeJars);
    Check.sentence("There are 4 classes of grains, numbered from 0", TermsTest::fourClasses);
    Check.sentence("a class has a speed, 1 to 100, at first 40, 20, 10 and 5.", TermsTest::speeds);
    Check.sentence("Each jar has 12 slices, numbered from 0 at the top to 11 at the bottom.",
        TermsTest::twelveSlices);
    Check.sentence("A slice holds a number of grains of each class, and its height has no other "
        + "meaning.", TermsTest::noOtherMeaning);
    Check.sentence("All jars are full of water", TermsTest::fullOfWater);
    Check.sentence("at first there are no grains in them.", TermsTest::noGrainsAtFirst);
    Check.sentence("An object is used for at most 512 calls after it has been made",
        TermsTest::manyCalls);
  }

  private static void settings() {
    Check.sentence("0: the hindrance, 0 to 1000, at first 100", () -> {
      isSetting(0, 0, 1000, 100);
      Check.same("the factor at 0", 1000, crowded(0, 5000).slice(0, 11, 8));
      Check.same("the factor at 1000", 1, crowded(1000, 5000).slice(0, 11, 8));
    });
    Check.sentence("1: the packing: how many grains, of all classes together, fit into a slice, "
        + "10 to 1000, at first 200", () -> {
      isSetting(1, 10, 1000, 200);
      Check.same("room of an empty slice at first", 200, new SettlingJars().slice(0, 0, 9));
      Check.same("grains that fall together at 10", 10, fallingInto(10));
      Check.same("grains that fall together at 1000", 1000, fallingInto(1000));
    });
    Check.sentence("2: the clarity: a slice is clear if it holds at most so many grains, 0 to 50, "
        + "at first 3", () -> {
      isSetting(2, 0, 50, 3);
      clearUpTo(0);
      clearUpTo(3);
      clearUpTo(50);
    });
    Check.sentence("3: the residue, 0 to 9 grains, at first 0", () -> {
      isSetting(3, 0, 9, 0);
      for (int residue = 0; residue <= 9; residue++) {
        Check.same("a slice with the residue " + residue, 0, fallenOf(residue, residue));
        Check.same("with one grain more than " + residue, 1, fallenOf(residue, residue + 1));
      }
    });
  }

  private static void falling() {
    Check.sentence("the slices of a jar are gone through from the one above the bottom (slice 10) "
        + "to the top one.", TermsTest::fromBelow);
    Check.sentence("grains fall into the slice below it, class by class, those of class 0 first",
        TermsTest::classByClass);
    Check.sentence("With g as the number of all grains in the slice at the beginning of its turn",
        TermsTest::grainsAtTheBeginning);
    Check.sentence("the factor of the slice is 1000 * 1000 / (1000 + g * hindrance / 10).",
        TermsTest::factor);
    Check.sentence("as many want to fall as n * v * factor / 100000", TermsTest::wanting);
    Check.sentence("if this is 0, and n is greater than the residue, 1 grain wants to fall.",
        TermsTest::oneWants);
    Check.sentence("No more than n fall.", TermsTest::noMoreThanAll);
    Check.sentence("No more fall than the slice below has room for", TermsTest::noMoreThanRoom);
    Check.sentence("packing minus the number of all grains in it by then", TermsTest::roomByThen);
    Check.sentence("(also those that fell in this turn)", TermsTest::fellInThisTurn);
    Check.sentence("at least 0.", TermsTest::roomIsNeverLess);
    Check.sentence("Grains of slice 11 lie at the bottom.", TermsTest::bottom);
    Check.sentence("All jars go on in each step.", TermsTest::allJarsGoOn);
  }

  private static void layers() {
    Check.sentence("A slice is packed if it holds at least as many grains as the packing tells.",
        TermsTest::packed);
    Check.sentence("The bed of a jar are its packed slices from slice 11 upwards, one after the "
        + "other, as long as they are packed.", TermsTest::bed);
    Check.sentence("The clear water of a jar are its clear slices from slice 0 downwards, one after "
        + "the other, as long as they are clear.", TermsTest::clearWater);
    Check.sentence("The leading class of a slice is the class with the most grains in it, of "
        + "several the lowest one", TermsTest::leadingClass);
    Check.sentence("there is none if the slice has no grains.", TermsTest::noLeadingClass);
  }

  private static void accounts() {
    Check.sentence("the grains that were poured, and those that were drawn off, by all jars.",
        TermsTest::pouredAndDrawn);
    Check.sentence("(Pouring from jar to jar is neither.)", TermsTest::neitherPouredNorDrawn);
  }

  private static void truncated() {
    Check.same("of 1000000 / 1010", 990, crowded(100, 1).slice(0, 11, 8));
    SettlingJars x = new SettlingJars();
    x.pour(0, 0, 0, 5);
    Check.same("of 5 * 40 * 952 / 100000, 1.9", 1, x.settle(1));
    x.pour(1, 3, 2, 199);
    Check.same("of 199 * 1 / 100", 1, x.draw(1, 3, 1));
  }

  private static void threeJars() {
    SettlingJars x = new SettlingJars();
    for (int jar = 0; jar < 3; jar++) {
      x.pour(jar, 4, 1, jar + 1);
    }
    for (int jar = 0; jar < 3; jar++) {
      Check.same("jar " + jar, jar + 1, x.jar(jar, 0));
    }
    Check.refusesIndex("jar -1", x, () -> x.jar(-1, 0));
    Check.refusesIndex("jar 3", x, () -> x.jar(3, 0));
  }

  private static void fourClasses() {
    SettlingJars x = new SettlingJars();
    for (int grain = 0; grain < 4; grain++) {
      x.pour(0, 3, grain, grain + 1);
    }
    for (int grain = 0; grain < 4; grain++) {
      Check.same("in the slice", grain + 1, x.slice(0, 3, grain));
      Check.same("poured", grain + 1, x.grains(grain, 0));
    }
    Check.same("all of them", 10, x.slice(0, 3, 4));
    Check.refusesIndex("class -1", x, () -> x.pour(0, 3, -1, 1));
    Check.refusesIndex("class 4", x, () -> x.pour(0, 3, 4, 1));
  }

  private static void speeds() {
    SettlingJars x = new SettlingJars();
    int[] first = {40, 20, 10, 5};
    for (int k = 0; k < 4; k++) {
      int grain = k;
      Check.same("at first", first[k], x.grains(k, 3));
      Check.refusesArgument("0", x, () -> x.setSpeed(grain, 0));
      Check.refusesArgument("101", x, () -> x.setSpeed(grain, 101));
      Check.same("before 1", first[k], x.setSpeed(k, 1));
      Check.same("before 100", 1, x.setSpeed(k, 100));
      Check.same("100", 100, x.grains(k, 3));
    }
    Check.refusesIndex("class -1", x, () -> x.setSpeed(-1, 1));
    Check.refusesIndex("class 4", x, () -> x.setSpeed(4, 1));
  }

  private static void twelveSlices() {
    SettlingJars x = new SettlingJars();
    for (int slice = 0; slice < 12; slice++) {
      Check.same("poured", slice + 1, x.pour(2, slice, 0, slice + 1));
    }
    for (int slice = 0; slice < 12; slice++) {
      Check.same("slice " + slice, slice + 1, x.slice(2, slice, 0));
    }
    Check.refusesIndex("slice -1", x, () -> x.slice(2, -1, 0));
    Check.refusesIndex("slice 12", x, () -> x.slice(2, 12, 0));
    SettlingJars y = new SettlingJars();
    y.pour(0, 0, 0, 1);
    Check.same("falls from the top to the bottom", 11, y.settle(11));
    Check.same("the bottom", 1, y.slice(0, 11, 0));
  }

  /** The same grains answer alike in each slice, and fall alike but from the bottom. */
  private static void noOtherMeaning() {
    int[] due = {0, 60, 0, 140, 200, 1, 0, 3, 333, 0};
    for (int slice = 0; slice < 12; slice++) {
      SettlingJars x = new SettlingJars();
      x.pour(0, slice, 1, 60);
      x.pour(0, slice, 3, 140);
      for (int what = 0; what < 10; what++) {
        Check.same("property " + what + " of slice " + slice, due[what], x.slice(0, slice, what));
      }
      Check.same("a step from slice " + slice, slice == 11 ? 0 : 3 + 2, x.settle(1));
      Check.same("drawn off slice " + slice, slice == 11 ? 30 + 70 : 28 + 69, x.draw(0, slice, 50));
    }
  }

  /** No water goes with the grains. */
  private static void fullOfWater() {
    SettlingJars x = Make.fast();
    x.pour(0, 0, 0, 100);
    x.decant(0, 1, 11);
    x.draw(1, 0, 100);
    for (int jar = 0; jar < 3; jar++) {
      Check.same("clear water of jar " + jar, 12, x.jar(jar, 6));
      x.pour(jar, 0, 2, 10);
    }
    Check.same("grains fall in each", 30, x.settle(1));
  }

  private static void noGrainsAtFirst() {
    SettlingJars x = new SettlingJars();
    for (int k = 0; k < 144; k++) {
      Check.same("grains of a class in a slice", 0, x.slice(k / 48, k / 4 % 12, k % 4));
    }
    Check.same("all", 0, x.count(1));
  }

  private static void manyCalls() {
    SettlingJars x = new SettlingJars();
    for (int call = 1; call <= 510; call++) {
      Check.same("call " + call, call, x.pour(1, 7, 2, 1));
    }
    Check.same("the call before the last", 5, x.undo());
    Check.same("the last call", 509, x.grains(2, 0));
  }

  private static void isSetting(int setting, int least, int greatest, int first) {
    SettlingJars x = new SettlingJars();
    Check.same("at first", first, x.setting(setting));
    Check.refusesArgument("below", x, () -> x.set(setting, least - 1));
    Check.refusesArgument("above", x, () -> x.set(setting, greatest + 1));
    Check.same("before the least", first, x.set(setting, least));
    Check.same("the least", least, x.setting(setting));
    Check.same("before the greatest", least, x.set(setting, greatest));
    Check.same("the greatest", greatest, x.setting(setting));
  }

  /** Jar 0 with so many grains in its lowest slice. */
  private static SettlingJars crowded(int hindrance, int many) {
    SettlingJars x = new SettlingJars();
    x.set(0, hindrance);
    Make.fill(x, 0, many);
    return x;
  }

  private static int fallingInto(int packing) {
    SettlingJars x = Make.fast();
    x.set(1, packing);
    x.pour(0, 10, 0, 600);
    x.pour(0, 10, 3, 600);
    return x.settle(1);
  }

  private static void clearUpTo(int clarity) {
    SettlingJars x = new SettlingJars();
    x.set(2, clarity);
    Check.same("an empty slice", 1, x.slice(0, 4, 6));
    if (clarity > 0) {
      x.pour(0, 4, 1, clarity);
      Check.same("with " + clarity, 1, x.slice(0, 4, 6));
    }
    x.pour(0, 4, 3, 1);
    Check.same("with one more than " + clarity, 0, x.slice(0, 4, 6));
  }

  /** How many of so many grains fall in a step, where the speed alone lets none fall. */
  private static int fallenOf(int residue, int many) {
    SettlingJars x = Make.slow();
    x.set(3, residue);
    if (many > 0) {
      x.pour(1, 2, 3, many);
    }
    return x.settle(1);
  }

  private static void fromBelow() {
    SettlingJars x = Make.fast();
    x.set(1, 10);
    for (int slice = 0; slice <= 10; slice++) {
      x.pour(0, slice, slice % 4, 10);
    }
    Check.same("each slice makes room for the one above it", 110, x.settle(1));
    Check.same("the top is empty", 0, x.slice(0, 0, 4));
    for (int slice = 1; slice <= 11; slice++) {
      Check.same("slice " + slice, 10, x.slice(0, slice, (slice - 1) % 4));
    }
    SettlingJars y = Make.fast();
    y.pour(0, 0, 0, 1);
    Check.same("one slice in a step", 1, y.settle(1));
    Check.same("slice 1", 1, y.slice(0, 1, 0));
  }

  private static void classByClass() {
    SettlingJars x = Make.fast();
    x.set(1, 10);
    for (int grain = 3; grain >= 0; grain--) {
      x.pour(0, 10, grain, 4);
    }
    Check.same("all that fit", 10, x.settle(1));
    int[] below = {4, 4, 2, 0};
    for (int grain = 0; grain < 4; grain++) {
      Check.same("class " + grain, below[grain], x.slice(0, 11, grain));
      Check.same("left of class " + grain, 4 - below[grain], x.slice(0, 10, grain));
    }
  }

  private static void grainsAtTheBeginning() {
    SettlingJars x = Make.fast();
    x.set(0, 100);
    x.pour(0, 10, 0, 100);
    x.pour(0, 10, 1, 100);
    Check.same("both classes by the factor 333", 66, x.settle(1));
    Check.same("class 1 as if class 0 was still there", 33, x.slice(0, 11, 1));
    SettlingJars y = Make.fast();
    y.set(0, 100);
    y.pour(0, 10, 0, 100);
    y.pour(0, 9, 0, 100);
    y.settle(1);
    Check.same("before those from above have come", 50, y.slice(0, 11, 0));
    SettlingJars z = Make.fast();
    z.set(0, 100);
    z.pour(0, 9, 0, 100);
    z.pour(0, 10, 0, 50);
    z.pour(0, 11, 0, 100);
    z.settle(1);
    Check.same("only those in the slice count", 50, z.slice(0, 9, 0));
  }

  private static void factor() {
    SettlingJars x = new SettlingJars();
    x.set(0, 1000);
    Check.same("no grains", 1000, x.slice(0, 0, 8));
    x.pour(0, 0, 0, 1);
    Check.same("1 grain, 1000", 909, x.slice(0, 0, 8));
    x.set(0, 9);
    Check.same("1 grain, 9", 1000, x.slice(0, 0, 8));
    x.set(0, 10);
    Check.same("1 grain, 10", 999, x.slice(0, 0, 8));
    x.set(0, 1);
    x.pour(0, 0, 3, 8);
    Check.same("9 grains, 1", 1000, x.slice(0, 0, 8));
    x.pour(0, 0, 2, 1);
    Check.same("10 grains, 1", 999, x.slice(0, 0, 8));
    Check.same("none of the other slices", 1000, x.slice(0, 1, 8));
    Check.same("5000 grains, 0", 1000, crowded(0, 5000).slice(0, 11, 8));
    Check.same("5000 grains, 999", 1000000 / 500500, crowded(999, 5000).slice(0, 11, 8));
    Check.same("4990 grains, 1000", 2, crowded(1000, 4990).slice(0, 11, 8));
    Check.same("4991 grains, 1000", 1, crowded(1000, 4991).slice(0, 11, 8));
  }

  private static void wanting() {
    SettlingJars x = Make.fast();
    x.set(3, 9);
    x.pour(0, 5, 1, 4);
    x.setSpeed(1, 24);
    Check.same("4 * 24 * 1000 are too few", 4, x.why(0, 5, 1));
    Check.same("so none falls", 0, x.settle(1));
    x.setSpeed(1, 25);
    Check.same("4 * 25 * 1000 are enough", 0, x.why(0, 5, 1));
    Check.same("so one falls", 1, x.settle(1));
    SettlingJars y = Make.fast();
    y.setSpeed(2, 99);
    y.pour(2, 0, 2, 100);
    Check.same("100 * 99 * 1000 / 100000", 99, y.settle(1));
    SettlingJars u = Make.fast();
    u.set(1, 1000);
    u.setSpeed(3, 41);
    Make.fill(u, 0, 2439);
    u.turn(0);
    Check.same("2439 * 41 * 1000 / 100000, 999.99", 999, u.settle(1));
    SettlingJars z = Make.fast();
    z.set(1, 1000);
    Make.fill(z, 1, 5000);
    z.turn(1);
    Check.same("5000 * 100 * 1000 / 100000, of which 1000 have room", 1000, z.settle(1));
  }

  private static void oneWants() {
    Check.same("no grain, no residue", 0, fallenOf(0, 0));
    Check.same("1 grain, no residue", 1, fallenOf(0, 1));
    Check.same("9 grains, the residue 9", 0, fallenOf(9, 9));
    Check.same("10 grains, the residue 9", 1, fallenOf(9, 10));
    SettlingJars x = Make.fast();
    x.set(3, 9);
    x.pour(0, 3, 0, 9);
    Check.same("where this is not 0, the residue keeps none", 9, x.settle(1));
    SettlingJars y = Make.slow();
    y.set(3, 2);
    y.pour(0, 3, 0, 2);
    y.pour(0, 3, 1, 2);
    y.pour(0, 3, 2, 3);
    Check.same("each class by itself", 1, y.settle(1));
    Check.same("one of the three", 1, y.slice(0, 4, 2));
  }

  private static void noMoreThanAll() {
    SettlingJars x = Make.fast();
    x.pour(0, 3, 0, 199);
    x.pour(0, 3, 1, 1);
    Check.same("all of both", 200, x.settle(1));
    Check.same("none of class 0 is left", 0, x.slice(0, 3, 0));
    Check.same("none of class 1 is left", 0, x.slice(0, 3, 1));
    Check.same("class 0 below", 199, x.slice(0, 4, 0));
    Check.same("class 1 below", 1, x.slice(0, 4, 1));
    Check.same("none of class 2 came", 0, x.slice(0, 4, 2) + x.slice(0, 4, 3));
  }

  private static void noMoreThanRoom() {
    int[] there = {1, 7, 8, 9, 10};
    for (int many : there) {
      SettlingJars x = Make.fast();
      x.set(1, 10);
      x.pour(0, 11, 2, many);
      x.pour(0, 10, 0, 3);
      Check.same("into a slice with " + many, Math.min(3, 10 - many), x.settle(1));
      Check.same("then there are", Math.min(10, many + 3), x.slice(0, 11, 4));
    }
  }

  private static void roomByThen() {
    SettlingJars x = Make.fast();
    x.set(1, 10);
    for (int grain = 0; grain < 4; grain++) {
      x.pour(0, 7, grain, 2);
    }
    x.pour(0, 6, 3, 5);
    x.set(3, 9);
    for (int grain = 0; grain < 4; grain++) {
      x.setSpeed(grain, 1 + 99 * (grain / 3));
    }
    Check.same("two of class 3 fall first, and leave room for four", 2 + 4, x.settle(1));
    Check.same("the slice is full", 10, x.slice(0, 7, 4));
    Check.same("one has to stay", 1, x.slice(0, 6, 3));
  }

  private static void fellInThisTurn() {
    SettlingJars x = Make.fast();
    x.set(1, 10);
    x.pour(0, 3, 0, 6);
    x.pour(0, 3, 1, 6);
    x.pour(0, 3, 2, 6);
    Check.same("ten in all", 10, x.settle(1));
    Check.same("of class 0", 6, x.slice(0, 4, 0));
    Check.same("of class 1", 4, x.slice(0, 4, 1));
    Check.same("of class 2", 0, x.slice(0, 4, 2));
  }

  private static void roomIsNeverLess() {
    SettlingJars x = Make.fast();
    x.set(1, 10);
    x.pour(0, 11, 0, 10);
    Check.same("room in a full slice", 0, x.slice(0, 11, 9));
    x.pour(0, 11, 0, 999);
    x.pour(0, 10, 0, 4);
    Check.same("room in one with more than fit", 0, x.slice(0, 11, 9));
    Check.same("none falls", 0, x.settle(1));
    Check.same("and none rises", 4, x.slice(0, 10, 0));
  }

  private static void bottom() {
    SettlingJars x = Make.fast();
    x.pour(0, 11, 0, 500);
    x.pour(0, 11, 3, 1);
    Check.same("none falls", 0, x.settle(100));
    Check.same("they are there", 501, x.slice(0, 11, 4));
    x.pour(0, 10, 1, 1);
    x.set(1, 1000);
    Check.same("the one above falls on them", 1, x.settle(100));
  }

  private static void allJarsGoOn() {
    SettlingJars x = Make.fast();
    for (int jar = 0; jar < 3; jar++) {
      x.pour(jar, jar, 0, 10 + jar);
    }
    Check.same("of all jars", 33, x.settle(1));
    for (int jar = 0; jar < 3; jar++) {
      Check.same("jar " + jar, 10 + jar, x.slice(jar, jar + 1, 0));
    }
  }

  private static void packed() {
    for (int packing = 10; packing <= 1000; packing += 495) {
      SettlingJars x = new SettlingJars();
      x.set(1, packing);
      Check.same("an empty slice", 0, x.slice(1, 6, 5));
      x.pour(1, 5, 0, packing - 1);
      x.pour(1, 7, 0, packing - 1);
      x.pour(1, 5, 1, 1);
      Check.same("an empty slice below a packed one", 0, x.slice(1, 6, 5));
      x.pour(1, 6, 0, packing - 3);
      x.pour(1, 6, 3, 2);
      Check.same("one less than " + packing, 0, x.slice(1, 6, 5));
      x.pour(1, 6, 1, 1);
      Check.same("just " + packing, 1, x.slice(1, 6, 5));
      x.pour(1, 6, 1, 1);
      Check.same("one more than " + packing, 1, x.slice(1, 6, 5));
    }
  }

  private static void bed() {
    SettlingJars x = new SettlingJars();
    x.set(1, 10);
    Check.same("an empty jar", 0, x.jar(0, 5));
    x.pour(0, 0, 0, 10);
    x.pour(0, 10, 0, 10);
    Check.same("nothing packed in slice 11", 0, x.jar(0, 5));
    x.pour(0, 11, 0, 9);
    Check.same("one less in slice 11", 0, x.jar(0, 5));
    x.pour(0, 11, 3, 1);
    Check.same("slices 11 and 10", 2, x.jar(0, 5));
    Check.same("their grains", 20, x.jar(0, 7));
    for (int slice = 9; slice >= 1; slice--) {
      x.pour(0, slice, 1, 9);
      Check.same("as long as they are packed", 11 - slice, x.jar(0, 5));
      x.pour(0, slice, 1, 1);
    }
    Check.same("all slices", 12, x.jar(0, 5));
    Check.same("all grains", 120, x.jar(0, 7));
    x.draw(0, 5, 10);
    Check.same("up to a gap", 6, x.jar(0, 5));
    Check.same("the grains up to there", 60, x.jar(0, 7));
    Check.same("all packed slices", 11, x.count(2));
  }

  private static void clearWater() {
    SettlingJars x = new SettlingJars();
    Check.same("an empty jar", 12, x.jar(0, 6));
    x.pour(0, 11, 0, 4);
    Check.same("all but slice 11", 11, x.jar(0, 6));
    x.pour(0, 5, 1, 3);
    Check.same("as many as are clear", 11, x.jar(0, 6));
    x.pour(0, 5, 2, 1);
    Check.same("down to slice 4", 5, x.jar(0, 6));
    Check.same("all clear slices", 10 + 24, x.count(3));
    x.pour(0, 0, 3, 4);
    Check.same("not from slice 0", 0, x.jar(0, 6));
    x.set(2, 4);
    Check.same("with more clarity", 12, x.jar(0, 6));
  }

  private static void leadingClass() {
    SettlingJars x = new SettlingJars();
    for (int grain = 3; grain >= 0; grain--) {
      x.pour(0, 2, grain, 5);
      Check.same("of several", grain, x.slice(0, 2, 7));
    }
    for (int grain = 1; grain < 4; grain++) {
      x.pour(0, 2, grain, grain);
      Check.same("with the most", grain, x.slice(0, 2, 7));
    }
    SettlingJars y = new SettlingJars();
    y.pour(0, 2, 3, 6);
    y.pour(0, 2, 1, 6);
    y.pour(0, 2, 2, 6);
    y.pour(0, 2, 0, 5);
    Check.same("the lowest of those with the most", 1, y.slice(0, 2, 7));
  }

  private static void noLeadingClass() {
    SettlingJars x = new SettlingJars();
    Check.same("an empty slice", NONE, x.slice(0, 0, 7));
    x.pour(0, 0, 3, 1);
    Check.same("a single grain", 3, x.slice(0, 0, 7));
    Check.same("the next slice", NONE, x.slice(0, 1, 7));
    x.draw(0, 0, 100);
    Check.same("empty again", NONE, x.slice(0, 0, 7));
  }

  private static void pouredAndDrawn() {
    SettlingJars x = new SettlingJars();
    for (int jar = 0; jar < 3; jar++) {
      x.pour(jar, 3, 2, 100);
      x.draw(jar, 3, jar + 1);
    }
    Make.type(x, "40c@5+7a+2c@11");
    x.load(1);
    Check.same("poured, with a load", 342, x.grains(2, 0));
    Check.same("drawn off", 6, x.grains(2, 1));
    Check.same("what is left", 336, x.grains(2, 2));
    Check.same("poured of another class", 7, x.grains(0, 0));
    Check.same("drawn off of another class", 0, x.grains(0, 1));
  }

  private static void neitherPouredNorDrawn() {
    SettlingJars x = new SettlingJars();
    x.pour(0, 0, 1, 50);
    x.decant(0, 2, 11);
    x.stir(2, 0, 11);
    x.turn(2);
    x.settle(5);
    Check.same("poured", 50, x.grains(1, 0));
    Check.same("drawn off", 0, x.grains(1, 1));
    Check.same("in all jars", 50, x.grains(1, 2));
  }
}
