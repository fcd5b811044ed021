/** The boundary cases of the settings and of what is done, promises 2 to 9: a test for each sentence. */
public final class DeedsTest {
  public static void main(String[] args) {
    settings();
    pouring();
    stirring();
    drawing();
    decanting();
    turning();
    settling();
    Check.end("DeedsTest");
  }

  private static void settings() {
    Check.sentence("Creates jars without grains, as told, with an empty buffer.", DeedsTest::isNew);
    Check.sentence("Changes a setting. Undoable.", () -> {
      for (int k = 0; k < 4; k++) {
        SettlingJars x = new SettlingJars();
        x.set(k, 12 - k);
        for (int other = 0; other < 4; other++) {
          int due = other == k ? 12 - k : new SettlingJars().setting(other);
          Check.same("setting " + other + " behind a change of " + k, due, x.setting(other));
        }
        Check.same("saved states left", 0, x.undo());
        Check.same("all is as it was", new SettlingJars().digest(), x.digest());
      }
    });
    Check.sentence("Changes the speed of a class. Undoable.", () -> {
      for (int k = 0; k < 4; k++) {
        SettlingJars x = new SettlingJars();
        x.setSpeed(k, 77);
        for (int other = 0; other < 4; other++) {
          int due = other == k ? 77 : new SettlingJars().grains(other, 3);
          Check.same("speed " + other + " behind a change of " + k, due, x.grains(other, 3));
        }
        Check.same("saved states left", 0, x.undo());
        Check.same("all is as it was", new SettlingJars().digest(), x.digest());
      }
    });
    Check.sentence("(Grains that are there stay, also if they are more than fit then.)", () -> {
      SettlingJars x = Make.fast();
      Make.fill(x, 0, 5000);
      x.pour(1, 4, 0, 200);
      x.set(1, 10);
      Check.same("in the bottom slice", 5000, x.slice(0, 11, 4));
      Check.same("in slice 4", 200, x.slice(1, 4, 0));
      Check.same("no room", 0, x.slice(1, 4, 9));
      Check.same("only as many as fit fall on", 10, x.settle(1));
      Check.same("the others stay", 190, x.slice(1, 4, 0));
    });
    Check.sentence("Returns the previous value.", () -> {
      SettlingJars x = new SettlingJars();
      Check.same("the first one", 200, x.set(1, 10));
      Check.same("the least", 10, x.set(1, 1000));
      Check.same("the greatest", 1000, x.set(1, 1000));
      Check.same("the same", 1000, x.set(1, 77));
      Check.same("behind an undo", 3, x.undo());
      Check.same("the one before it", 1000, x.set(1, 10));
    });
    Check.sentence("Returns the previous speed.", () -> {
      SettlingJars x = new SettlingJars();
      Check.same("the first one", 5, x.setSpeed(3, 1));
      Check.same("the least", 1, x.setSpeed(3, 100));
      Check.same("the greatest", 100, x.setSpeed(3, 100));
      Check.same("of another class", 10, x.setSpeed(2, 11));
    });
  }

  /** Also where another object has been used before. */
  private static void isNew() {
    SettlingJars first = new SettlingJars();
    long digest = first.digest();
    SettlingJars used = Make.brimful();
    SettlingJars x = new SettlingJars();
    Check.same("the digest of a new one", digest, x.digest());
    Check.same("the digest of one made before", digest, first.digest());
    Check.same("grains", 0, x.count(1));
    Check.same("steps", 0, x.count(0));
    Check.same("saved states", 0, x.count(5));
    Check.same("the length of the buffer", 0, x.clearBuffer());
    Check.same("the used one stays as it is", 15000, used.count(1));
  }

  private static void pouring() {
    Check.sentence("Pours grains into a slice, whatever its packing.", () -> {
      SettlingJars x = new SettlingJars();
      x.set(1, 10);
      Check.same("up to the packing", 10, x.pour(0, 5, 0, 10));
      Check.same("into a packed slice", 11, x.pour(0, 5, 1, 1));
      Check.same("far more than fit", 1010, x.pour(0, 5, 2, 999));
      Check.same("into the bottom slice", 999, x.pour(0, 11, 3, 999));
    });
    Check.sentence("`many`: 1 to 999", () -> {
      SettlingJars x = new SettlingJars();
      Check.refusesArgument("0", x, () -> x.pour(0, 0, 0, 0));
      Check.refusesArgument("-1", x, () -> x.pour(0, 0, 0, -1));
      Check.same("1", 1, x.pour(0, 0, 0, 1));
      Check.same("999", 1000, x.pour(0, 0, 0, 999));
      Check.refusesArgument("1000", x, () -> x.pour(0, 0, 0, 1000));
    });
    Check.sentence("Returns how many grains the slice holds then.", () -> {
      SettlingJars x = new SettlingJars();
      Check.same("an empty slice", 7, x.pour(2, 3, 1, 7));
      Check.same("with another class", 12, x.pour(2, 3, 3, 5));
      Check.same("another slice", 4, x.pour(2, 4, 3, 4));
      Check.same("another jar", 2, x.pour(1, 3, 3, 2));
    });
    Check.sentence("if the jar would hold more than 5000 grains", () -> {
      SettlingJars x = new SettlingJars();
      Make.fill(x, 1, 4001);
      Check.same("4001 and 999", 999, x.pour(1, 0, 0, 999));
      Check.refusesState("5000 and 1", x, () -> x.pour(1, 0, 0, 1));
      x.draw(1, 0, 1);
      Check.refusesState("4991 and 10", x, () -> x.pour(1, 5, 2, 10));
      Check.same("4991 and 9", 9, x.pour(1, 5, 2, 9));
      Check.same("another jar", 999, x.pour(2, 0, 0, 999));
    });
  }

  private static void stirring() {
    Check.sentence("with n grains and m slices each gets n / m, and the first n % m of them, from "
        + "the top, 1 more.", () -> {
      for (int m = 1; m <= 12; m++) {
        for (int n = 1; n <= 2 * m + 1; n++) {
          spreads(n, m);
        }
      }
      spreads(999, 12);
      spreads(999, 2);
    });
    Check.sentence("the grains of each class in these slices", () -> {
      SettlingJars x = new SettlingJars();
      for (int grain = 0; grain < 4; grain++) {
        x.pour(0, 4 + grain, grain, 3);
      }
      x.pour(0, 3, 0, 50);
      x.pour(0, 8, 0, 60);
      Check.same("four classes, each by itself", 12, x.stir(0, 4, 7));
      int[] all = {50, 4, 4, 4, 0, 60};
      for (int k = 0; k < 6; k++) {
        Check.same("slice " + (3 + k), all[k], x.slice(0, 3 + k, 4));
      }
      Check.same("of each class one", 1, x.slice(0, 6, 3));
    });
    Check.sentence("the slices from from to to are stirred", () -> {
      SettlingJars x = new SettlingJars();
      x.pour(0, 5, 0, 9);
      Check.same("one slice", 9, x.stir(0, 5, 5));
      Check.same("it stays as it is", 9, x.slice(0, 5, 0));
      Check.same("the slice above is another", 0, x.stir(0, 4, 4));
      Check.same("all slices", 9, x.stir(0, 0, 11));
      Check.same("the top one", 1, x.slice(0, 0, 0));
      Check.same("the bottom one", 0, x.slice(0, 11, 0));
    });
    Check.sentence("Throws `IllegalArgumentException` if from is greater than to", () -> {
      SettlingJars x = new SettlingJars();
      x.pour(0, 5, 0, 9);
      Check.refusesArgument("by one", x, () -> x.stir(0, 6, 5));
      Check.refusesArgument("by all", x, () -> x.stir(0, 11, 0));
      Check.same("equal", 9, x.stir(0, 5, 5));
    });
    Check.sentence("Returns how many grains are in them.", () -> {
      SettlingJars x = new SettlingJars();
      Check.same("an empty jar", 0, x.stir(2, 0, 11));
      Make.fill(x, 2, 5000);
      Check.same("but the last slice", 0, x.stir(2, 0, 10));
      Check.same("a full jar", 5000, x.stir(2, 0, 11));
      Check.same("the upper half", 6 * 417, x.stir(2, 0, 5));
    });
  }

  private static void spreads(int n, int m) {
    SettlingJars x = new SettlingJars();
    int from = (12 - m) / 2;
    x.pour(0, from + m - 1, 2, n);
    Check.same("stirred", n, x.stir(0, from, from + m - 1));
    for (int k = 0; k < m; k++) {
      int due = k < n % m ? n / m + 1 : n / m;
      Check.same(n + " in " + m + ", the slice " + k, due, x.slice(0, from + k, 2));
    }
    Check.same("none are lost", n, x.jar(0, 0));
  }

  private static void drawing() {
    Check.sentence("`percent`: 1 to 100", () -> {
      SettlingJars x = new SettlingJars();
      x.pour(0, 0, 0, 300);
      Check.refusesArgument("0", x, () -> x.draw(0, 0, 0));
      Check.refusesArgument("101", x, () -> x.draw(0, 0, 101));
      Check.same("1", 3, x.draw(0, 0, 1));
      Check.same("100", 297, x.draw(0, 0, 100));
      Check.same("100 of none", 0, x.draw(0, 0, 100));
    });
    Check.sentence("of each class n * percent / 100 grains.", () -> {
      SettlingJars x = new SettlingJars();
      int[] grains = {99, 100, 199, 200};
      int[] off = {0, 1, 1, 2};
      for (int grain = 0; grain < 4; grain++) {
        x.pour(1, 6, grain, grains[grain]);
      }
      Check.same("each truncated by itself", 4, x.draw(1, 6, 1));
      for (int grain = 0; grain < 4; grain++) {
        Check.same("left of class " + grain, grains[grain] - off[grain], x.slice(1, 6, grain));
        Check.same("drawn off of class " + grain, off[grain], x.grains(grain, 1));
      }
      SettlingJars y = new SettlingJars();
      y.pour(0, 0, 3, 1);
      Check.same("99 percent of a grain", 0, y.draw(0, 0, 99));
      Check.same("100 percent of it", 1, y.draw(0, 0, 100));
    });
    Check.sentence("Returns how many grains are drawn off.", () -> {
      SettlingJars x = new SettlingJars();
      Check.same("of an empty slice", 0, x.draw(0, 3, 50));
      Make.fill(x, 0, 5000);
      Check.same("of another slice", 0, x.draw(0, 10, 100));
      Check.same("99 percent of 5000", 4950, x.draw(0, 11, 99));
      Check.same("the others", 50, x.draw(0, 11, 100));
      Check.same("in the account", 5000, x.grains(3, 1));
    });
  }

  private static void decanting() {
    Check.sentence("the grains of its slice k come into the slice k of that one, for all slices "
        + "from 0 to last.", () -> {
      for (int last = 0; last < 12; last++) {
        decantsDownTo(last);
      }
    });
    Check.sentence("Throws `IllegalArgumentException` if both jars are the same", () -> {
      SettlingJars x = new SettlingJars();
      x.pour(1, 0, 0, 5);
      for (int k = 0; k < 3; k++) {
        int jar = k;
        Check.refusesArgument("jar " + k, x, () -> x.decant(jar, jar, 0));
      }
    });
    Check.sentence("if the other jar would hold more than 5000 grains", () -> {
      SettlingJars x = new SettlingJars();
      Make.fill(x, 0, 4990);
      x.pour(1, 0, 0, 10);
      x.pour(1, 1, 0, 1);
      Check.refusesState("5001", x, () -> x.decant(1, 0, 1));
      Check.same("5000", 10, x.decant(1, 0, 0));
      Check.same("all of them", 5000, x.jar(0, 0));
      Check.refusesState("one more", x, () -> x.decant(1, 0, 11));
      Check.same("none more", 0, x.decant(1, 0, 0));
      Check.same("a full jar into an empty one", 5000, x.decant(0, 2, 11));
      Check.same("nothing is left", 0, x.jar(0, 0));
    });
    Check.sentence("Returns how many grains go over.", () -> {
      SettlingJars x = new SettlingJars();
      x.pour(2, 3, 3, 40);
      Check.same("of an empty jar", 0, x.decant(0, 2, 11));
      Check.same("above the grains", 0, x.decant(2, 0, 2));
      Check.same("with them", 40, x.decant(2, 0, 3));
      Check.same("they have gone", 0, x.decant(2, 0, 3));
    });
  }

  private static void decantsDownTo(int last) {
    SettlingJars x = new SettlingJars();
    for (int slice = 0; slice < 12; slice++) {
      x.pour(0, slice, slice % 4, slice + 1);
    }
    x.pour(2, last, last % 4, 100);
    int over = (last + 1) * (last + 2) / 2;
    Check.same("down to " + last, over, x.decant(0, 2, last));
    for (int slice = 0; slice < 12; slice++) {
      int goes = slice <= last ? slice + 1 : 0;
      int there = slice == last ? 100 : 0;
      Check.same("left in " + slice, slice + 1 - goes, x.slice(0, slice, slice % 4));
      Check.same("then in " + slice, goes + there, x.slice(2, slice, slice % 4));
    }
    Check.same("nothing else", 100 + over, x.jar(2, 0));
    Check.same("in the jar between", 0, x.jar(1, 0));
  }

  private static void turning() {
    Check.sentence("what was in slice k comes into slice 11 - k.", () -> {
      SettlingJars x = new SettlingJars();
      for (int slice = 0; slice < 12; slice++) {
        x.pour(1, slice, slice % 4, slice + 1);
      }
      x.turn(1);
      for (int slice = 0; slice < 12; slice++) {
        Check.same("slice " + slice, slice + 1, x.slice(1, 11 - slice, slice % 4));
        Check.same("all of it", slice + 1, x.slice(1, 11 - slice, 4));
      }
      x.turn(1);
      for (int slice = 0; slice < 12; slice++) {
        Check.same("turned back, slice " + slice, slice + 1, x.slice(1, slice, slice % 4));
      }
    });
    Check.sentence("Returns the number of packed slices then.", () -> {
      SettlingJars x = new SettlingJars();
      Check.same("an empty jar", 0, x.turn(0));
      x.set(1, 10);
      x.pour(0, 0, 0, 9);
      Check.same("almost packed", 0, x.turn(0));
      x.pour(0, 11, 2, 1);
      Check.same("packed", 1, x.turn(0));
      Check.same("of another jar", 0, x.turn(1));
      for (int slice = 1; slice < 12; slice++) {
        x.pour(0, slice, 1, 10);
      }
      Check.same("all slices", 12, x.turn(0));
    });
  }

  private static void settling() {
    Check.sentence("`steps`: 1 to 100", () -> {
      SettlingJars x = new SettlingJars();
      Check.refusesArgument("0", x, () -> x.settle(0));
      Check.refusesArgument("-1", x, () -> x.settle(-1));
      Check.refusesArgument("101", x, () -> x.settle(101));
      x.settle(1);
      Check.same("1", 1, x.count(0));
      x.settle(100);
      Check.same("100", 101, x.count(0));
    });
    Check.sentence("Undoable, as one call.", () -> {
      SettlingJars x = new SettlingJars();
      x.pour(0, 0, 0, 50);
      x.settle(100);
      Check.same("one state is saved", 2, x.count(5));
      x.undo();
      Check.same("all steps are undone", 0, x.count(0));
      Check.same("all falls are undone", 0, x.count(4));
      Check.same("the grains are back", 50, x.slice(0, 0, 0));
    });
    Check.sentence("(each fall from a slice to the next one is counted)", () -> {
      SettlingJars x = new SettlingJars();
      Check.same("empty jars", 0, x.settle(1));
      x.pour(0, 0, 0, 1);
      x.pour(2, 9, 3, 1);
      Check.same("two grains, one step", 2, x.settle(1));
      Check.same("10 and 1 more", 11, x.settle(100));
      Check.same("at rest", 0, x.settle(100));
      Check.same("in the account", 13, x.count(4));
    });
    Check.sentence("if there would be more than 10000 steps", DeedsTest::noMoreSteps);
  }

  private static void noMoreSteps() {
    SettlingJars x = new SettlingJars();
    for (int k = 0; k < 99; k++) {
      x.settle(100);
    }
    x.settle(1);
    Check.refusesState("9901 and 100", x, () -> x.settle(100));
    x.undo();
    x.settle(100);
    Check.same("9900 and 100", 10000, x.count(0));
    Check.refusesState("10000 and 1", x, () -> x.settle(1));
    x.undo();
    Check.same("undone", 9900, x.count(0));
    x.settle(99);
    Check.refusesState("9999 and 2", x, () -> x.settle(2));
    x.settle(1);
    Check.same("9999 and 1", 10000, x.count(0));
  }
}
