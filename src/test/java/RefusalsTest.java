import java.util.ArrayList;
import java.util.Arrays;
import java.util.List;
import java.util.Set;
import java.util.TreeSet;

/**
 * Every argument of every method at both ends of its range and outside of it, and every state in
 * which the document names an exception: which one comes, and that nothing is changed by it.
 */
public final class RefusalsTest {
  private static final Class<?> INDEX = IndexOutOfBoundsException.class;
  private static final Class<?> ARGUMENT = IllegalArgumentException.class;
  private static final Class<?> STATE = IllegalStateException.class;

  private static final Range JAR = new Range(0, 2, INDEX);
  private static final Range SLICE = new Range(0, 11, INDEX);
  private static final Range GRAIN = new Range(0, 3, INDEX);
  private static final Range STEPS = new Range(1, 100, ARGUMENT);

  /** What an argument may be, and what is thrown outside of that. */
  private record Range(int least, int most, Class<?> thrown) {
    int[] outside() {
      return new int[] {least - 1, most + 1, Integer.MIN_VALUE, Integer.MAX_VALUE};
    }
  }

  private interface Call {
    void on(SettlingJars x, int[] a);
  }

  /** A method with ranges that do not depend on one another, and arguments that it takes. */
  private record Method(String name, Call call, int[] usual, Range... ranges) {
  }

  private static final List<Method> METHODS = List.of(
      method("2: set the hindrance", (x, a) -> x.set(0, a[0]), values(0, 1000)),
      method("2: set the packing", (x, a) -> x.set(1, a[0]), values(10, 1000)),
      method("2: set the clarity", (x, a) -> x.set(2, a[0]), values(0, 50)),
      method("2: set the residue", (x, a) -> x.set(3, a[0]), values(0, 9)),
      method("2: set which", (x, a) -> x.set(a[0], a[0] == 1 ? 10 : 9), new Range(0, 3, INDEX)),
      method("3: setSpeed", (x, a) -> x.setSpeed(a[0], a[1]), GRAIN, values(1, 100)),
      method("4: pour", (x, a) -> x.pour(a[0], a[1], a[2], a[3]), JAR, SLICE, GRAIN,
          values(1, 999)),
      method("5: stir from", (x, a) -> x.stir(a[0], a[1], 11), JAR, SLICE),
      method("5: stir to", (x, a) -> x.stir(a[0], 0, a[1]), JAR, SLICE),
      method("5: stir one slice", (x, a) -> x.stir(a[0], a[1], a[1]), JAR, SLICE),
      method("6: draw", (x, a) -> x.draw(a[0], a[1], a[2]), JAR, SLICE, values(1, 100)),
      method("7: decant from", (x, a) -> x.decant(a[0], (a[0] + 1) % 3, a[1]), JAR, SLICE),
      method("7: decant to", (x, a) -> x.decant((a[0] + 1) % 3, a[0], a[1]), JAR, SLICE),
      method("8: turn", (x, a) -> x.turn(a[0]), JAR),
      method("9: settle", (x, a) -> x.settle(a[0]), STEPS),
      method("10: append", (x, a) -> x.append(a[0]), values(33, 126)),
      method("13: load", (x, a) -> x.load(a[0]), JAR),
      method("15: slice", (x, a) -> x.slice(a[0], a[1], a[2]), JAR, SLICE, values(0, 9)),
      method("16: jar", (x, a) -> x.jar(a[0], a[1]), JAR, values(0, 9)),
      method("17: grains", (x, a) -> x.grains(a[0], a[1]), GRAIN, values(0, 3)),
      method("18: count", (x, a) -> x.count(a[0]), values(0, 5)),
      method("19: setting", (x, a) -> x.setting(a[0]), new Range(0, 3, INDEX)),
      method("20: why", (x, a) -> x.why(a[0], a[1], a[2]), JAR, SLICE, GRAIN),
      method("21: ifSettled", (x, a) -> x.ifSettled(a[0], a[1], a[2]), JAR, STEPS, values(0, 8)),
      method("22: clearIn", (x, a) -> x.clearIn(a[0], a[1]), JAR, values(1, 12)),
      method("23: restIn", (x, a) -> x.restIn(a[0]), JAR),
      method("24: purest", (x, a) -> x.purest(a[0], a[1]), JAR, GRAIN),
      method("25: meanDepth", (x, a) -> x.meanDepth(a[0]), JAR));

  private static Method method(String name, Call call, Range... ranges) {
    int[] usual = new int[ranges.length];
    for (int k = 0; k < usual.length; k++) {
      usual[k] = (ranges[k].least() + ranges[k].most()) / 2;
    }
    return new Method(name, call, usual, ranges);
  }

  private static Range values(int least, int most) {
    return new Range(least, most, ARGUMENT);
  }

  /** The number of a promise and an exception that was due in a call of its method. */
  private static final Set<String> TRIED = new TreeSet<>();

  public static void main(String[] args) {
    Check.sentence("A call that throws an exception changes nothing.", () -> {
      for (Method method : METHODS) {
        for (int k = 0; k < method.ranges().length; k++) {
          takesTheEnds(method, k);
        }
        refusesAllOutside(method, RefusalsTest::fresh);
        refusesAllOutside(method, Make::busy);
        refusesAllOutside(method, Make::brimful);
      }
      refusesWhatDoesNotGoTogether();
      refusesInAState();
    });
    Check.sentence("If several exceptions apply, the one that is named first in the throws clause "
        + "is thrown.", RefusalsTest::refusesTheFirstOfSeveral);
    triesWhatTheDocumentNames();
    Check.end("RefusalsTest");
  }

  /** Each "Throws" of a promise has a call above in which it was due. */
  private static void triesWhatTheDocumentNames() {
    Set<String> named = new TreeSet<>();
    for (String promise : Source.document().split("\n## Promise ")) {
      for (String thrown : Source.found("\nThrows `(\\w+)`", promise)) {
        named.add(promise.substring(0, promise.indexOf(':')) + ": " + thrown);
      }
    }
    Check.holds("tried are " + TRIED + ", the document names " + named, TRIED.equals(named));
  }

  private static SettlingJars fresh() {
    return new SettlingJars();
  }

  private static void takesTheEnds(Method method, int which) {
    Range range = method.ranges()[which];
    for (int end = range.least(); end <= range.most(); end += Math.max(1, range.most() - range.least())) {
      int[] a = method.usual().clone();
      a[which] = end;
      Check.throwsJust(told(method, a), null, () -> method.call().on(Make.busy(), a));
    }
  }

  /** Any choice of the arguments may be outside: the exception that is named first comes. */
  private static void refusesAllOutside(Method method, Make.Maker maker) {
    List<int[]> choices = new ArrayList<>();
    addChoices(method, 0, method.usual().clone(), choices);
    long[] before = Make.trace(maker.make());
    for (int[] a : choices) {
      Class<?> due = due(method, a);
      if (due != null) {
        SettlingJars x = maker.make();
        refusesAndKeeps(told(method, a), x, due, before, () -> method.call().on(x, a));
      }
    }
  }

  private static void addChoices(Method method, int which, int[] a, List<int[]> choices) {
    if (which == a.length) {
      choices.add(a.clone());
      return;
    }
    addChoices(method, which + 1, a, choices);
    int usual = a[which];
    for (int value : method.ranges()[which].outside()) {
      a[which] = value;
      addChoices(method, which + 1, a, choices);
    }
    a[which] = usual;
  }

  private static Class<?> due(Method method, int[] a) {
    Class<?> due = null;
    for (int k = 0; k < a.length; k++) {
      Range range = method.ranges()[k];
      if ((a[k] < range.least() || a[k] > range.most()) && due != INDEX) {
        due = range.thrown();
      }
    }
    return due;
  }

  private static String told(Method method, int[] a) {
    return method.name() + " " + Arrays.toString(a);
  }

  private static void refusesAndKeeps(String what, SettlingJars x, Class<?> due, long[] before,
      Check.Call call) {
    TRIED.add(what.substring(0, what.indexOf(':')) + ": " + due.getSimpleName());
    Check.throwsJust(what, due, call);
    long[] after = Make.trace(x);
    Check.holds(what + " leaves " + Arrays.toString(after) + ", due is " + Arrays.toString(before),
        Arrays.equals(before, after));
  }

  private static void refuses(String what, Class<?> due, Make.Maker maker, Call call) {
    SettlingJars x = maker.make();
    refusesAndKeeps(what, x, due, Make.trace(maker.make()), () -> call.on(x, null));
  }

  private static void refusesWhatDoesNotGoTogether() {
    for (int from = 0; from < 12; from++) {
      for (int to = 0; to < 12; to++) {
        int upper = from;
        int lower = to;
        refusesIf(from > to, "5: stir " + from + " to " + to, x -> x.stir(0, upper, lower));
      }
    }
    for (int from = 0; from < 3; from++) {
      for (int to = 0; to < 3; to++) {
        int one = from;
        int other = to;
        refusesIf(from == to, "7: decant " + from + " to " + to, x -> x.decant(one, other, 11));
      }
    }
    String[] incomplete = {"", "7", "77", "777", "7a@", "7a+", "7a@1+", "7a@11+7", "7a@11+7b@"};
    String[] wrong = {"07a", "a", "1000a", "7e", "7a@12", "7a@01", "7a++7a", "+7a", "7a7b", "7a!"};
    for (String text : incomplete) {
      refuses("13: load " + text, ARGUMENT, () -> Make.typed(text), (x, a) -> x.load(2));
    }
    for (String text : wrong) {
      refuses("13: load " + text, ARGUMENT, () -> Make.typed(text), (x, a) -> x.load(2));
    }
  }

  private interface Deed {
    void on(SettlingJars x);
  }

  private static void refusesIf(boolean wrong, String what, Deed deed) {
    if (wrong) {
      refuses(what, ARGUMENT, Make::busy, (x, a) -> deed.on(x));
    } else {
      Check.throwsJust(what, null, () -> deed.on(Make.busy()));
    }
  }

  private static void refusesInAState() {
    refuses("4: pour into a full jar", STATE, Make::brimful, (x, a) -> x.pour(1, 0, 0, 1));
    refuses("4: pour all that goes at once", STATE, Make::brimful, (x, a) -> x.pour(1, 11, 3, 999));
    refuses("7: decant into a full jar", STATE, Make::brimful, (x, a) -> x.decant(0, 2, 11));
    refuses("9: settle behind the last step", STATE, Make::brimful, (x, a) -> x.settle(1));
    refuses("9: settle far behind it", STATE, Make::brimful, (x, a) -> x.settle(100));
    refuses("10: append to a full buffer", STATE, Make::brimful, (x, a) -> x.append(33));
    refuses("10: append the last code", STATE, Make::brimful, (x, a) -> x.append(126));
    refuses("13: load into a full jar", STATE, Make::brimful, (x, a) -> x.load(0));
    refuses("14: undo without a saved state", STATE, RefusalsTest::fresh, (x, a) -> x.undo());
    refuses("14: undo, with no more than a text", STATE, () -> Make.typed("1a"), (x, a) -> x.undo());
  }

  private static void refusesTheFirstOfSeveral() {
    refuses("2: no setting 4, a value that none takes", INDEX, Make::busy, (x, a) -> x.set(4, 1001));
    refuses("2: no setting -1, a value that none takes", INDEX, Make::busy, (x, a) -> x.set(-1, -1));
    refuses("7: the same full jar", ARGUMENT, Make::brimful, (x, a) -> x.decant(1, 1, 11));
    refuses("7: the same full jar, slice 12", INDEX, Make::brimful, (x, a) -> x.decant(1, 1, 12));
    refuses("7: the same jar 3", INDEX, Make::brimful, (x, a) -> x.decant(3, 3, 0));
    refuses("7: the same jar -1", INDEX, Make::brimful, (x, a) -> x.decant(-1, -1, 0));
    refuses("5: from above to, no slice 12", INDEX, Make::busy, (x, a) -> x.stir(0, 12, 3));
    refuses("5: from above to, no slice -1", INDEX, Make::busy, (x, a) -> x.stir(0, 3, -1));
    refuses("5: from above to, no jar 3", INDEX, Make::busy, (x, a) -> x.stir(3, 3, 2));
    refuses("5: from above to, no jar -1", INDEX, Make::busy, (x, a) -> x.stir(-1, 11, 0));
    String tooMany = "999a+999a+999a+999a+999a+999a";
    refuses("13: too many", STATE, () -> Make.typed(tooMany), (x, a) -> x.load(0));
    refuses("13: too many, not complete", ARGUMENT, () -> Make.typed(tooMany + "+"),
        (x, a) -> x.load(0));
    refuses("13: not complete, no jar 3", INDEX, () -> Make.typed("1"), (x, a) -> x.load(3));
    refuses("13: too many, no jar -1", INDEX, () -> Make.typed(tooMany), (x, a) -> x.load(-1));
    refuses("13: too many, not complete, no jar 3", INDEX, () -> Make.typed(tooMany + "0"),
        (x, a) -> x.load(3));
    refuses("13: an empty buffer, no jar 3", INDEX, RefusalsTest::fresh, (x, a) -> x.load(3));
  }
}
