import java.util.Arrays;

/** The boundary cases of what is asked, promises 15 to 25: a test for each sentence. */
public final class AnswersTest {
  private static final int NONE = SettlingJars.NONE;

  public static void main(String[] args) {
    slices();
    jars();
    numbers();
    Check.sentence("4: grains that fell so far (each fall is counted)",
        AnswersTest::onlySettleCounts);
    settings();
    reasons();
    lookingAhead();
    samples();
    Check.end("AnswersTest");
  }

  private static void slices() {
    Check.sentence("0 to 3: the grains of this class; 4: all grains", () -> {
      SettlingJars x = new SettlingJars();
      isSlice(x, 0, new int[] {0, 0, 0, 0, 0});
      x.pour(1, 0, 3, 4);
      isSlice(x, 0, new int[] {0, 0, 0, 4, 4});
      x.pour(1, 0, 0, 999);
      x.pour(1, 0, 1, 2);
      x.pour(1, 0, 2, 3);
      isSlice(x, 0, new int[] {999, 2, 3, 4, 1008});
    });
    Check.sentence("5: 1 if it is packed, else 0; 6: 1 if it is clear, else 0", () -> {
      SettlingJars x = new SettlingJars();
      x.set(1, 10);
      x.set(2, 11);
      int[] packed = {0, 1, 1, 1};
      int[] clear = {1, 1, 1, 0};
      x.pour(1, 2, 0, 8);
      for (int k = 0; k < 4; k++) {
        x.pour(1, 2, k, 1);
        Check.same("packed with " + (9 + k), packed[k], x.slice(1, 2, 5));
        Check.same("clear with " + (9 + k), clear[k], x.slice(1, 2, 6));
      }
    });
    Check.sentence("7: its leading class, NONE if there is none", () -> {
      SettlingJars x = new SettlingJars();
      Check.same("no grains", NONE, x.slice(1, 11, 7));
      x.pour(1, 11, 0, 1);
      Check.same("class 0", 0, x.slice(1, 11, 7));
      x.pour(1, 11, 3, 2);
      Check.same("class 3", 3, x.slice(1, 11, 7));
    });
    Check.sentence("8: its factor; 9: for how many grains it has room", () -> {
      SettlingJars x = new SettlingJars();
      int[] grains = {0, 199, 200, 201};
      int[] factors = {1000, 334, 333, 332};
      int[] rooms = {200, 1, 0, 0};
      for (int k = 0; k < 4; k++) {
        if (k > 0) {
          x.pour(1, 11, 2, grains[k] - grains[k - 1]);
        }
        Check.same("the factor with " + grains[k], factors[k], x.slice(1, 11, 8));
        Check.same("the room with " + grains[k], rooms[k], x.slice(1, 11, 9));
      }
    });
  }

  private static void isSlice(SettlingJars x, int slice, int[] due) {
    for (int what = 0; what < due.length; what++) {
      Check.same("property " + what, due[what], x.slice(1, slice, what));
    }
  }

  private static void jars() {
    Check.sentence("0: all grains; 1 to 4: the grains of the class what - 1", () -> {
      SettlingJars x = new SettlingJars();
      for (int grain = 0; grain < 4; grain++) {
        x.pour(0, 0, grain, 1 + grain);
        x.pour(0, 11, grain, 10);
        Check.same("class " + grain, 11 + grain, x.jar(0, grain + 1));
      }
      Check.same("all", 50, x.jar(0, 0));
      Make.fill(x, 0, 4950);
      Check.same("a full jar", 5000, x.jar(0, 0));
      Check.same("an empty jar", 0, x.jar(1, 0));
    });
    Check.sentence("5: how many slices its bed has; 6: how many slices of clear water it has; "
        + "7: the grains in the bed", () -> {
      SettlingJars x = new SettlingJars();
      isLayered(x, 0, 12, 0);
      x.pour(0, 11, 0, 199);
      isLayered(x, 0, 11, 0);
      x.pour(0, 11, 1, 2);
      isLayered(x, 1, 11, 201);
      x.pour(0, 9, 1, 500);
      isLayered(x, 1, 9, 201);
      x.pour(0, 0, 2, 4);
      isLayered(x, 1, 0, 201);
      x.pour(0, 10, 2, 200);
      isLayered(x, 3, 0, 901);
    });
    Check.sentence("8: how often the leading class changes from one slice with grains to the next "
        + "lower slice with grains", AnswersTest::changes);
    Check.sentence("9: 1 if nothing would fall in the next step, else 0", () -> {
      rest();
      restByTheFactor();
    });
  }

  private static void isLayered(SettlingJars x, int bed, int clear, int inBed) {
    Check.same("the bed", bed, x.jar(0, 5));
    Check.same("clear water", clear, x.jar(0, 6));
    Check.same("grains in the bed", inBed, x.jar(0, 7));
  }

  private static void changes() {
    SettlingJars x = new SettlingJars();
    Check.same("an empty jar", 0, x.jar(2, 8));
    x.pour(2, 11, 1, 1);
    Check.same("one slice", 0, x.jar(2, 8));
    x.pour(2, 0, 1, 5);
    Check.same("two slices alike", 0, x.jar(2, 8));
    x.pour(2, 5, 2, 1);
    Check.same("there and back, over empty slices", 2, x.jar(2, 8));
    x.pour(2, 5, 1, 1);
    Check.same("the lowest of several leads", 0, x.jar(2, 8));
    SettlingJars y = new SettlingJars();
    for (int slice = 0; slice < 12; slice++) {
      y.pour(0, slice, slice % 2, 1);
      Check.same("from slice to slice", slice, y.jar(0, 8));
    }
    y.draw(0, 6, 100);
    Check.same("the two about an empty slice are alike", 9, y.jar(0, 8));
  }

  private static void rest() {
    SettlingJars x = new SettlingJars();
    Check.same("an empty jar", 1, x.jar(0, 9));
    x.pour(0, 11, 0, 200);
    Check.same("all at the bottom", 1, x.jar(0, 9));
    x.pour(0, 10, 3, 1);
    Check.same("the bottom is full", 1, x.jar(0, 9));
    x.pour(0, 0, 3, 1);
    Check.same("a grain at the top", 0, x.jar(0, 9));
    x.set(3, 1);
    Check.same("no more than the residue", 1, x.jar(0, 9));
    x.pour(0, 0, 3, 1);
    Check.same("one more than the residue", 0, x.jar(0, 9));
    Check.same("another jar", 1, x.jar(1, 9));
    SettlingJars y = new SettlingJars();
    y.set(1, 10);
    for (int slice = 1; slice < 12; slice++) {
      y.pour(0, slice, 0, 10);
    }
    y.pour(0, 0, 3, 1);
    Check.same("all full below", 1, y.jar(0, 9));
    y.draw(0, 11, 10);
    Check.same("room for one at the bottom", 0, y.jar(0, 9));
    Check.same("it makes room up to the top", 11, y.settle(1));
  }

  /** Two grains of class 0 fall where they are among up to 10 in their own slice. */
  private static void restByTheFactor() {
    SettlingJars x = Make.slow();
    x.set(3, 9);
    x.setSpeed(0, 100);
    for (int slice = 0; slice < 10; slice++) {
      x.pour(0, slice, 1, 9);
      x.pour(0, slice, 2, 9);
    }
    Check.same("no more than the residue in each slice", 1, x.jar(0, 9));
    x.pour(0, 10, 0, 2);
    x.pour(0, 10, 3, 8);
    Check.same("they want to fall among 10", 0, x.jar(0, 9));
    Check.same("so says why", 0, x.why(0, 10, 0));
    x.pour(0, 10, 1, 1);
    Check.same("but not among 11", 1, x.jar(0, 9));
    Check.same("and so says why", 4, x.why(0, 10, 0));
    Check.same("none falls", 0, x.settle(1));
    x.undo();
    x.undo();
    x.pour(0, 11, 3, 900);
    Check.same("those below do not count", 0, x.jar(0, 9));
    Check.same("nor for why", 0, x.why(0, 10, 0));
    Check.same("one falls", 1, x.settle(1));
    SettlingJars y = Make.slow();
    y.set(3, 9);
    y.setSpeed(0, 100);
    y.pour(0, 5, 0, 2);
    y.pour(0, 5, 3, 9);
    Check.same("no grains in the other slices", 1, y.jar(0, 9));
    Check.same("none for why", 4, y.why(0, 5, 0));
  }

  private static void numbers() {
    Check.sentence("0: poured; 1: drawn off; 2: in all jars; 3: its speed", () -> {
      SettlingJars x = new SettlingJars();
      isAccount(x, 3, new int[] {0, 0, 0, 5});
      for (int jar = 0; jar < 3; jar++) {
        Make.fill(x, jar, 5000);
      }
      isAccount(x, 3, new int[] {15000, 0, 15000, 5});
      x.draw(2, 11, 100);
      x.setSpeed(3, 100);
      isAccount(x, 3, new int[] {15000, 5000, 10000, 100});
      isAccount(x, 2, new int[] {0, 0, 0, 10});
    });
    Check.sentence("0: steps so far; 1: all grains in all jars; 2: packed slices of all jars; "
        + "3: clear slices of all jars; 4: grains that fell so far (each fall is counted); "
        + "5: saved states", () -> {
      SettlingJars x = new SettlingJars();
      isCounted(x, new int[] {0, 0, 0, 36, 0, 0});
      x.pour(0, 0, 0, 1);
      x.pour(1, 11, 1, 200);
      x.pour(2, 11, 2, 199);
      isCounted(x, new int[] {0, 400, 1, 34, 0, 3});
      x.settle(100);
      isCounted(x, new int[] {100, 400, 1, 34, 11, 4});
      x.undo();
      isCounted(x, new int[] {0, 400, 1, 34, 0, 3});
    });
  }

  /** No other call than settle is a step, or a fall. */
  private static void onlySettleCounts() {
    for (int k = 0; k < 9; k++) {
      SettlingJars x = Make.busy();
      int steps = x.count(0);
      int fallen = x.count(4);
      Make.deeds(x)[k].run();
      Check.same("steps behind call " + k, k == 7 ? steps + 2 : steps, x.count(0));
      Check.holds("falls behind call " + k, k == 7 == (x.count(4) != fallen));
    }
    SettlingJars x = Make.busy();
    int fallen = x.count(4);
    int fell = x.settle(2);
    Check.same("falls behind two steps", fallen + fell, x.count(4));
  }

  private static void settings() {
    Check.sentence("Returns a setting.", () -> {
      int[] first = {100, 200, 3, 0};
      int[] then = {7, 17, 27, 8};
      for (int k = 0; k < 4; k++) {
        SettlingJars x = new SettlingJars();
        Check.same("at first", first[k], x.setting(k));
        x.set(k, then[k]);
        Check.same("then", then[k], x.setting(k));
        x.undo();
        Check.same("undone", first[k], x.setting(k));
      }
    });
  }

  private static void isAccount(SettlingJars x, int grain, int[] due) {
    for (int what = 0; what < due.length; what++) {
      Check.same("account " + what + " of " + grain, due[what], x.grains(grain, what));
    }
  }

  private static void isCounted(SettlingJars x, int[] due) {
    for (int what = 0; what < due.length; what++) {
      Check.same("count " + what, due[what], x.count(what));
    }
  }

  private static void reasons() {
    Check.sentence("Tells why no grain of a class would fall from a slice", () -> {
      SettlingJars x = new SettlingJars();
      x.set(3, 1);
      x.pour(0, 5, 2, 1);
      x.pour(1, 5, 2, 2);
      Check.same("jar 0", 4, x.why(0, 5, 2));
      Check.same("jar 1", 0, x.why(1, 5, 2));
      Check.same("jar 2", 2, x.why(2, 5, 2));
      x.pour(2, 5, 2, 2);
      x.pour(2, 6, 0, 200);
      Check.same("jar 2, on a full slice", 3, x.why(2, 5, 2));
      Check.same("another slice", 0, x.why(2, 6, 0));
      Check.same("another class", 2, x.why(2, 5, 0));
    });
    Check.sentence("Returns 0 if at least one grain would fall", () -> {
      SettlingJars x = new SettlingJars();
      x.pour(0, 10, 3, 1);
      x.pour(0, 11, 0, 199);
      Check.same("one grain, room for one", 0, x.why(0, 10, 3));
      x.pour(0, 0, 0, 200);
      Check.same("many grains", 0, x.why(0, 0, 0));
    });
    Check.sentence("if it was the turn of this class alone now, with all slices as they are.", () -> {
      SettlingJars x = Make.fast();
      x.set(1, 10);
      x.pour(0, 11, 3, 9);
      x.pour(0, 10, 0, 10);
      x.pour(0, 10, 1, 1);
      x.pour(0, 9, 2, 1);
      Check.same("class 0 has not fallen yet", 0, x.why(0, 10, 1));
      Check.same("slice 10 is as it is", 3, x.why(0, 9, 2));
    });
    Check.sentence("otherwise the first of these that holds", AnswersTest::firstReason);
    Check.sentence("1: it is the bottom slice;", () -> {
      SettlingJars x = new SettlingJars();
      Check.same("before no grains", 1, x.why(0, 11, 0));
      x.pour(0, 11, 0, 400);
      Check.same("with grains", 1, x.why(0, 11, 0));
      Check.same("the one above it", 2, x.why(0, 10, 0));
    });
    Check.sentence("2: there are no grains of this class;", () -> {
      SettlingJars x = new SettlingJars();
      x.pour(0, 10, 1, 9);
      x.pour(0, 11, 0, 200);
      Check.same("before no room", 2, x.why(0, 10, 0));
      Check.same("a class that is there", 3, x.why(0, 10, 1));
    });
    Check.sentence("3: the slice below has no room;", () -> {
      SettlingJars x = new SettlingJars();
      x.set(3, 9);
      x.pour(0, 5, 3, 1);
      x.pour(0, 6, 0, 199);
      Check.same("room for one", 4, x.why(0, 5, 3));
      x.pour(0, 6, 0, 1);
      Check.same("none, before none wants", 3, x.why(0, 5, 3));
      x.pour(0, 6, 0, 1);
      Check.same("more than fit", 3, x.why(0, 5, 3));
    });
    Check.sentence("4: no grain wants to fall.", () -> {
      SettlingJars x = new SettlingJars();
      x.pour(0, 5, 3, 9);
      Check.same("no residue", 0, x.why(0, 5, 3));
      x.set(3, 9);
      Check.same("no more than the residue", 4, x.why(0, 5, 3));
      x.set(3, 8);
      Check.same("one more than the residue", 0, x.why(0, 5, 3));
    });
  }

  private static void firstReason() {
    SettlingJars x = new SettlingJars();
    x.set(1, 10);
    x.set(3, 9);
    x.pour(0, 11, 0, 10);
    x.pour(0, 10, 1, 9);
    x.pour(0, 9, 1, 5);
    x.setSpeed(1, 1);
    Check.same("the bottom, which has no such grains", 1, x.why(0, 11, 3));
    Check.same("no such grains, and no room below", 2, x.why(0, 10, 3));
    Check.same("no room below, and none wants to fall", 3, x.why(0, 10, 1));
    Check.same("room below, but none wants to fall", 4, x.why(0, 9, 1));
  }

  private static void lookingAhead() {
    Check.sentence("Tells what would be after some steps.", () -> {
      for (int steps = 1; steps <= 100; steps = steps * 2 + steps % 3) {
        SettlingJars x = Make.busy();
        SettlingJars y = Make.busy();
        y.settle(steps);
        for (int k = 0; k < 27; k++) {
          Check.same("property " + k % 9 + " of jar " + k / 9 + " after " + steps,
              y.jar(k / 9, k % 9), x.ifSettled(k / 9, steps, k % 9));
        }
      }
    });
    Check.sentence("`steps`: 1 to 100 (the limit of 10000 steps does not matter for this and the "
        + "following questions)", AnswersTest::noLimitAhead);
    Check.sentence("`what`: 0 to 8, as in the method jar", () -> {
      SettlingJars x = Make.busy();
      SettlingJars y = Make.busy();
      y.settle(4);
      for (int what = 0; what <= 8; what++) {
        Check.same("property " + what, y.jar(0, what), x.ifSettled(0, 4, what));
      }
      Check.refusesArgument("9", x, () -> x.ifSettled(0, 4, 9));
      Check.refusesArgument("-1", x, () -> x.ifSettled(0, 4, -1));
    });
    Check.sentence("Returns the least number of steps, 0 to 300, behind which it has at least so "
        + "many; NONE if there is none.", AnswersTest::clearWithin300);
    Check.sentence("`slices`: 1 to 12", () -> {
      SettlingJars x = new SettlingJars();
      Check.same("1", 0, x.clearIn(0, 1));
      Check.same("12", 0, x.clearIn(0, 12));
      Check.refusesArgument("0", x, () -> x.clearIn(0, 0));
      Check.refusesArgument("13", x, () -> x.clearIn(0, 13));
      x.pour(0, 11, 0, 4);
      Check.same("11", 0, x.clearIn(0, 11));
      Check.same("never 12", NONE, x.clearIn(0, 12));
    });
    Check.sentence("Returns the least number of steps, 0 to 600, behind which nothing would fall in "
        + "the next step; NONE if there is none.", AnswersTest::restWithin600);
    Check.sentence("what would be; nothing is changed.", () -> {
      questionsChangeNothing("a new object", SettlingJars::new);
      questionsChangeNothing("some grains", Make::busy);
      questionsChangeNothing("full jars", Make::brimful);
      questionsChangeNothing("looking ahead to no end", AnswersTest::endless);
      Check.same("never clear in 300", NONE, endless().clearIn(0, 1));
      Check.same("never at rest in 600", NONE, endless().restIn(1));
    });
  }

  private static SettlingJars endless() {
    SettlingJars x = Make.slow();
    Make.type(x, "7b@6+1c");
    x.pour(0, 0, 2, 999);
    x.pour(1, 10, 2, 999);
    x.pour(2, 5, 1, 999);
    return x;
  }

  /** The digest asks questions itself, so the buffer and the saved states are looked at before it. */
  private static void questionsChangeNothing(String what, Make.Maker maker) {
    Check.same("the length of the buffer with " + what, maker.make().clearBuffer(),
        asked(maker).clearBuffer());
    Check.same("the saved states with " + what, maker.make().count(5), asked(maker).count(5));
    SettlingJars due = maker.make();
    SettlingJars got = asked(maker);
    for (int left = due.count(5); left > 0; left--) {
      Check.same("left with " + what, due.undo(), got.undo());
      Check.same("grains with " + what, due.count(1), got.count(1));
    }
    Check.holds("with " + what + " something is changed",
        Arrays.equals(Make.trace(maker.make()), Make.trace(asked(maker))));
  }

  private static SettlingJars asked(Make.Maker maker) {
    SettlingJars x = maker.make();
    for (int jar = 0; jar < 3; jar++) {
      for (int k = 0; k < 4; k++) {
        x.why(jar, 3 * k + 2, k);
        x.ifSettled(jar, 33 * k + 1, 2 * k);
        x.clearIn(jar, 3 * k + 1);
        x.purest(jar, k);
      }
      x.restIn(jar);
      x.meanDepth(jar);
    }
    return x;
  }

  private static void noLimitAhead() {
    SettlingJars x = new SettlingJars();
    for (int k = 0; k < 100; k++) {
      x.settle(100);
    }
    x.pour(0, 0, 0, 1);
    Check.refusesState("no step is left", x, () -> x.settle(1));
    Check.same("a step ahead", 12, x.ifSettled(0, 1, 6));
    x.set(2, 0);
    Check.same("the grain is at the top", 0, x.jar(0, 6));
    Check.same("1 step", 1, x.ifSettled(0, 1, 6));
    Check.same("10 steps", 10, x.ifSettled(0, 10, 6));
    Check.same("100 steps", 11, x.ifSettled(0, 100, 6));
    Check.same("clear in", 11, x.clearIn(0, 11));
    Check.same("at rest in", 11, x.restIn(0));
    Check.same("not at rest", 0, x.jar(0, 9));
    Check.same("would fall", 0, x.why(0, 0, 0));
    SettlingJars y = Make.slow();
    y.pour(0, 0, 0, 101);
    Check.same("one is left behind 100 steps", 0, y.ifSettled(0, 100, 6));
    y.draw(0, 0, 1);
    Check.same("none is left behind 100 steps", 1, y.ifSettled(0, 100, 6));
    Check.same("one is left behind 99 steps", 0, y.ifSettled(0, 99, 6));
  }

  private static void clearWithin300() {
    int[] grains = {1, 2, 299, 300};
    for (int many : grains) {
      SettlingJars x = Make.slow();
      x.pour(1, 0, 2, many);
      Check.same(many + " grains", many, x.clearIn(1, 1));
    }
    SettlingJars x = Make.slow();
    x.pour(1, 0, 2, 301);
    Check.same("301 grains", NONE, x.clearIn(1, 1));
    Check.same("a jar that is clear", 0, x.clearIn(0, 12));
    x.set(2, 1);
    Check.same("one may stay", 300, x.clearIn(1, 1));
    SettlingJars y = Make.slow();
    y.set(3, 1);
    y.pour(0, 0, 0, 2);
    Check.same("at rest before it is clear", NONE, y.clearIn(0, 1));
    y.pour(0, 1, 0, 1);
    y.set(2, 1);
    Check.same("at least so many, behind a step and two", 1, y.clearIn(0, 1));
    Check.same("what falls on goes through the next slice", 2, y.clearIn(0, 2));
    SettlingJars z = Make.slow();
    z.pour(0, 3, 1, 2);
    Check.same("more are clear than it is asked for", 0, z.clearIn(0, 2));
    Check.same("just so many", 0, z.clearIn(0, 3));
    Check.same("the next, behind two", 2, z.clearIn(0, 4));
  }

  private static void restWithin600() {
    int[] grains = {1, 2, 599, 600};
    for (int many : grains) {
      SettlingJars x = Make.slow();
      x.pour(1, 10, 2, many);
      Check.same(many + " grains", many, x.restIn(1));
    }
    SettlingJars x = Make.slow();
    x.pour(1, 10, 2, 601);
    Check.same("601 grains", NONE, x.restIn(1));
    x.set(1, 600);
    Check.same("room for 600", 600, x.restIn(1));
    Check.same("an empty jar", 0, x.restIn(0));
    x.pour(0, 11, 2, 999);
    Check.same("all at the bottom", 0, x.restIn(0));
    x.pour(0, 0, 2, 1);
    Check.same("no room at the bottom", 10, x.restIn(0));
  }

  private static void samples() {
    Check.sentence("are the greatest share of all grains in it (as exact fractions)", () -> {
      SettlingJars x = new SettlingJars();
      pourBoth(x, 0, 832, 1665);
      pourBoth(x, 1, 833, 1667);
      Check.same("833 / 1667 are more than 832 / 1665", 1, x.purest(0, 0));
      x.turn(0);
      Check.same("turned over", 10, x.purest(0, 0));
      SettlingJars y = new SettlingJars();
      pourBoth(y, 4, 333, 999);
      pourBoth(y, 2, 1, 3);
      Check.same("333 / 999 are 1 / 3", 2, y.purest(0, 0));
      Check.same("666 / 999 are 2 / 3", 2, y.purest(0, 1));
      pourBoth(y, 11, 334, 1000);
      Check.same("334 / 1000 are more", 11, y.purest(0, 0));
    });
    Check.sentence("of several the lowest number (highest slice)", () -> {
      SettlingJars x = new SettlingJars();
      for (int slice = 11; slice >= 0; slice--) {
        x.pour(0, slice, 3, 1 + slice);
        Check.same("alone in each from " + slice, slice, x.purest(0, 3));
      }
    });
    Check.sentence("NONE if the jar has no grains of this class.", () -> {
      SettlingJars x = new SettlingJars();
      Check.same("an empty jar", NONE, x.purest(0, 0));
      x.pour(0, 5, 1, 9);
      Check.same("another class", NONE, x.purest(0, 0));
      Check.same("another jar", NONE, x.purest(1, 1));
      Check.same("this class", 5, x.purest(0, 1));
      x.pour(0, 11, 0, 1);
      Check.same("a single grain", 11, x.purest(0, 0));
      x.draw(0, 11, 100);
      Check.same("it is gone", NONE, x.purest(0, 0));
    });
    Check.sentence("Returns the sum of the numbers of the slices of all its grains", () -> {
      SettlingJars x = new SettlingJars();
      for (int slice = 0; slice < 12; slice++) {
        x.pour(2, slice, slice % 4, 1);
        Check.sameBits("one in each down to " + slice, slice / 2.0, x.meanDepth(2));
      }
      for (int grain = 0; grain < 4; grain++) {
        x.pour(2, 3, grain, 1);
      }
      Check.sameBits("all classes alike", (66 + 12) / 16.0, x.meanDepth(2));
    });
    Check.sentence("as a double, divided by the number of its grains; 0.0 if it has none.",
        AnswersTest::depths);
  }

  /** So many grains of class 0 in a slice, and with class 1 so many in all. */
  private static void pourBoth(SettlingJars x, int slice, int first, int all) {
    x.pour(0, slice, 0, first);
    x.pour(0, slice, 1, all - first);
  }

  private static void depths() {
    SettlingJars x = new SettlingJars();
    Check.sameBits("an empty jar", 0.0, x.meanDepth(1));
    x.pour(1, 0, 3, 1);
    Check.sameBits("at the top", 0.0, x.meanDepth(1));
    x.pour(1, 1, 0, 2);
    Check.sameBits("two thirds", 2.0 / 3.0, x.meanDepth(1));
    x.draw(1, 0, 100);
    Check.sameBits("slice 1", 1.0, x.meanDepth(1));
    SettlingJars y = new SettlingJars();
    Make.fill(y, 0, 4999);
    Check.sameBits("at the bottom", 11.0, y.meanDepth(0));
    y.pour(0, 10, 0, 1);
    Check.sameBits("a full jar", 54999.0 / 5000.0, y.meanDepth(0));
    y.turn(0);
    Check.sameBits("turned over, the least that is not 0", 1.0 / 5000.0, y.meanDepth(0));
  }
}
