/** For each promise but the digest, which has a test of its own: ordinary calls, the edges that the document names, and wrong calls. */
public final class PromisesTest {
  private static final int NONE = SettlingJars.NONE;

  public static void main(String[] args) {
    promise1();
    promise2();
    promise2KeepsGrains();
    promise3();
    promise4();
    promise5();
    promise6();
    promise7();
    promise8();
    promise9();
    promise9Rules();
    promise9Limit();
    promise10();
    promise11();
    promise12();
    promise13();
    promise13Limit();
    promise14();
    promise14OfEach();
    promise15();
    promise16();
    promise16Rest();
    promise17();
    promise18();
    promise19();
    promise20();
    promise21();
    promise22();
    promise23();
    promise24();
    promise25();
    Check.end("PromisesTest");
  }

  private static void type(SettlingJars x, String text) {
    for (int k = 0; k < text.length(); k++) {
      x.append(text.charAt(k));
    }
  }

  private static int errorOf(String text) {
    SettlingJars x = new SettlingJars();
    type(x, text);
    return x.firstError();
  }

  /** A jar whose grains fall one at a time, however many there are. */
  private static SettlingJars oneByOne() {
    SettlingJars x = new SettlingJars();
    x.set(0, 1000);
    x.set(1, 1000);
    x.set(2, 0);
    x.setSpeed(0, 1);
    return x;
  }

  private static void promise1() {
    SettlingJars x = new SettlingJars();
    int[] counts = {0, 0, 0, 36, 0, 0};
    for (int what = 0; what < 6; what++) {
      Check.same("1: count " + what, counts[what], x.count(what));
    }
    int[] settings = {100, 200, 3, 0};
    int[] speeds = {40, 20, 10, 5};
    for (int k = 0; k < 4; k++) {
      Check.same("1: setting " + k, settings[k], x.setting(k));
      int[] accounts = {0, 0, 0, speeds[k]};
      for (int what = 0; what < 4; what++) {
        Check.same("1: grains " + k + ", " + what, accounts[what], x.grains(k, what));
      }
    }
    for (int jar = 0; jar < 3; jar++) {
      for (int slice = 0; slice < 12; slice++) {
        Check.same("1: all grains of a slice", 0, x.slice(jar, slice, 4));
      }
    }
    Check.same("1: firstError", 0, x.firstError());
    Check.same("1: length of the buffer", 0, x.clearBuffer());
    Check.refusesState("1: undo", x, () -> x.undo());
  }

  private static void promise2() {
    SettlingJars x = new SettlingJars();
    int[] first = {100, 200, 3, 0};
    int[] least = {0, 10, 0, 0};
    int[] most = {1000, 1000, 50, 9};
    for (int k = 0; k < 4; k++) {
      int setting = k;
      Check.same("2: set to the least", first[k], x.set(k, least[k]));
      Check.same("2: set to the greatest", least[k], x.set(k, most[k]));
      Check.same("2: set to the same", most[k], x.set(k, most[k]));
      Check.same("2: the setting", most[k], x.setting(k));
      Check.refusesArgument("2: below", x, () -> x.set(setting, least[setting] - 1));
      Check.refusesArgument("2: above", x, () -> x.set(setting, most[setting] + 1));
      Check.refusesArgument("2: far below", x, () -> x.set(setting, Integer.MIN_VALUE));
      Check.refusesArgument("2: far above", x, () -> x.set(setting, Integer.MAX_VALUE));
    }
    for (int k = 0; k < 4; k++) {
      Check.same("2: the others stay", most[k], x.setting(k));
    }
    Check.refusesIndex("2: setting -1", x, () -> x.set(-1, 5));
    Check.refusesIndex("2: setting 4, and a wrong value", x, () -> x.set(4, -1));
    SettlingJars y = new SettlingJars();
    y.set(3, 0);
    Check.same("2: a change to the same is saved too", 1, y.count(5));
    y.set(3, 4);
    Check.same("2: undo", 1, y.undo());
    Check.same("2: undone", 0, y.setting(3));
  }

  private static void promise2KeepsGrains() {
    SettlingJars x = new SettlingJars();
    x.pour(0, 4, 1, 150);
    x.set(1, 10);
    Check.same("2: grains stay", 150, x.slice(0, 4, 1));
    Check.same("2: no room is left", 0, x.slice(0, 4, 9));
    Check.same("2: packed then", 1, x.slice(0, 4, 5));
    x.pour(0, 3, 0, 20);
    Check.same("2: none falls on more than fit", 3, x.why(0, 3, 0));
  }

  private static void promise3() {
    SettlingJars x = new SettlingJars();
    int[] first = {40, 20, 10, 5};
    for (int k = 0; k < 4; k++) {
      int grain = k;
      Check.same("3: to 1", first[k], x.setSpeed(k, 1));
      Check.same("3: to 100", 1, x.setSpeed(k, 100));
      Check.same("3: the speed", 100, x.grains(k, 3));
      Check.refusesArgument("3: 0", x, () -> x.setSpeed(grain, 0));
      Check.refusesArgument("3: 101", x, () -> x.setSpeed(grain, 101));
    }
    Check.refusesIndex("3: class -1", x, () -> x.setSpeed(-1, 50));
    Check.refusesIndex("3: class 4, and a wrong speed", x, () -> x.setSpeed(4, 0));
    x.setSpeed(2, 7);
    x.undo();
    Check.same("3: undone", 100, x.grains(2, 3));
  }

  private static void promise4() {
    SettlingJars x = new SettlingJars();
    Check.same("4: the least", 1, x.pour(0, 0, 0, 1));
    Check.same("4: the most, another class", 1000, x.pour(0, 0, 3, 999));
    Check.same("4: another slice", 999, x.pour(0, 11, 1, 999));
    Check.same("4: poured", 999, x.grains(3, 0));
    Check.same("4: more than fit", 1998, x.pour(0, 11, 1, 999));
    x.pour(0, 5, 2, 999);
    x.pour(0, 5, 2, 999);
    Check.same("4: all", 4996, x.jar(0, 0));
    Check.refusesState("4: 5001", x, () -> x.pour(0, 7, 0, 5));
    Check.same("4: 5000", 4, x.pour(0, 7, 0, 4));
    Check.refusesState("4: a full jar", x, () -> x.pour(0, 0, 0, 1));
    Check.same("4: another jar", 1, x.pour(2, 0, 0, 1));
    Check.refusesArgument("4: none", x, () -> x.pour(0, 0, 0, 0));
    Check.refusesArgument("4: 1000, and a full jar", x, () -> x.pour(0, 0, 0, 1000));
    Check.refusesArgument("4: very many", x, () -> x.pour(1, 0, 0, Integer.MAX_VALUE));
    Check.refusesIndex("4: jar -1", x, () -> x.pour(-1, 0, 0, 1));
    Check.refusesIndex("4: jar 3", x, () -> x.pour(3, 0, 0, 1));
    Check.refusesIndex("4: slice -1", x, () -> x.pour(1, -1, 0, 1));
    Check.refusesIndex("4: slice 12", x, () -> x.pour(1, 12, 0, 1));
    Check.refusesIndex("4: class -1", x, () -> x.pour(1, 0, -1, 1));
    Check.refusesIndex("4: class 4, and many", x, () -> x.pour(1, 0, 4, 1000));
    x.undo();
    Check.same("4: undone", 0, x.jar(2, 0));
    Check.same("4: undone in the account", 5, x.grains(0, 0));
  }

  private static void promise5() {
    SettlingJars x = new SettlingJars();
    x.pour(1, 5, 0, 7);
    x.pour(1, 2, 3, 4);
    x.pour(1, 6, 0, 9);
    Check.same("5: in four slices", 11, x.stir(1, 2, 5));
    int[] ofFirst = {0, 0, 2, 2, 2, 1, 9};
    int[] ofLast = {0, 0, 1, 1, 1, 1, 0};
    for (int slice = 0; slice < 7; slice++) {
      Check.same("5: class 0 in slice " + slice, ofFirst[slice], x.slice(1, slice, 0));
      Check.same("5: class 3 in slice " + slice, ofLast[slice], x.slice(1, slice, 3));
    }
    Check.same("5: one slice", 9, x.stir(1, 6, 6));
    Check.same("5: it stays", 9, x.slice(1, 6, 0));
    Check.same("5: the whole jar", 20, x.stir(1, 0, 11));
    Check.same("5: the upper ones have one more", 2, x.slice(1, 3, 0));
    Check.same("5: the lower ones have one less", 1, x.slice(1, 4, 0));
    Check.same("5: fewer grains than slices, above", 1, x.slice(1, 3, 3));
    Check.same("5: fewer grains than slices, below", 0, x.slice(1, 4, 3));
    Check.same("5: an empty jar", 0, x.stir(0, 0, 11));
    Check.same("5: it is saved though", 6, x.count(5));
    x.undo();
    x.undo();
    Check.same("5: undone", 9, x.slice(1, 6, 0));
    Check.refusesArgument("5: from below to", x, () -> x.stir(0, 1, 0));
    Check.refusesIndex("5: jar 3", x, () -> x.stir(3, 0, 0));
    Check.refusesIndex("5: jar -1, and from below to", x, () -> x.stir(-1, 1, 0));
    Check.refusesIndex("5: from -1", x, () -> x.stir(0, -1, 3));
    Check.refusesIndex("5: from 12, below to", x, () -> x.stir(0, 12, 3));
    Check.refusesIndex("5: to 12", x, () -> x.stir(0, 0, 12));
    Check.refusesIndex("5: to -1, above from", x, () -> x.stir(0, 0, -1));
  }

  private static void promise6() {
    SettlingJars x = new SettlingJars();
    x.pour(2, 3, 0, 7);
    x.pour(2, 3, 1, 199);
    x.pour(2, 4, 1, 50);
    Check.same("6: a half of each class", 3 + 99, x.draw(2, 3, 50));
    Check.same("6: class 0 left", 4, x.slice(2, 3, 0));
    Check.same("6: class 1 left", 100, x.slice(2, 3, 1));
    Check.same("6: drawn of class 0", 3, x.grains(0, 1));
    Check.same("6: drawn of class 1", 99, x.grains(1, 1));
    Check.same("6: poured stays", 249, x.grains(1, 0));
    Check.same("6: the least percent", 1, x.draw(2, 3, 1));
    Check.same("6: all", 4 + 99, x.draw(2, 3, 100));
    Check.same("6: none is left", 0, x.slice(2, 3, 4));
    Check.same("6: the other slice stays", 50, x.slice(2, 4, 4));
    Check.same("6: an empty slice", 0, x.draw(2, 3, 100));
    x.undo();
    x.undo();
    Check.same("6: undone", 103, x.slice(2, 3, 4));
    Check.same("6: undone in the account", 100, x.grains(1, 1));
    Check.refusesArgument("6: 0 percent", x, () -> x.draw(2, 4, 0));
    Check.refusesArgument("6: 101 percent", x, () -> x.draw(2, 4, 101));
    Check.refusesIndex("6: jar -1", x, () -> x.draw(-1, 4, 50));
    Check.refusesIndex("6: jar 3", x, () -> x.draw(3, 4, 50));
    Check.refusesIndex("6: slice -1", x, () -> x.draw(2, -1, 50));
    Check.refusesIndex("6: slice 12, and 0 percent", x, () -> x.draw(2, 12, 0));
  }

  private static void promise7() {
    SettlingJars x = new SettlingJars();
    x.pour(0, 0, 0, 10);
    x.pour(0, 4, 1, 20);
    x.pour(0, 5, 2, 30);
    x.pour(1, 4, 1, 5);
    Check.same("7: down to slice 4", 30, x.decant(0, 1, 4));
    Check.same("7: slice 0 goes over", 10, x.slice(1, 0, 0));
    Check.same("7: slice 4 goes over", 25, x.slice(1, 4, 1));
    Check.same("7: slice 5 does not", 0, x.slice(1, 5, 2));
    Check.same("7: it stays", 30, x.jar(0, 0));
    Check.same("7: not poured", 25, x.grains(1, 0));
    Check.same("7: not drawn", 0, x.grains(1, 1));
    Check.same("7: the top slice alone", 0, x.decant(0, 2, 0));
    Check.same("7: all", 30, x.decant(0, 2, 11));
    Check.same("7: nothing is left", 0, x.jar(0, 0));
    x.undo();
    Check.same("7: undone", 30, x.jar(0, 0));
    Check.same("7: undone there", 0, x.jar(2, 0));
    Check.refusesArgument("7: the same jar", x, () -> x.decant(1, 1, 11));
    Check.refusesIndex("7: from -1", x, () -> x.decant(-1, 1, 3));
    Check.refusesIndex("7: from 3", x, () -> x.decant(3, 1, 3));
    Check.refusesIndex("7: to -1", x, () -> x.decant(0, -1, 3));
    Check.refusesIndex("7: to 3", x, () -> x.decant(0, 3, 3));
    Check.refusesIndex("7: the same jar 3", x, () -> x.decant(3, 3, 3));
    Check.refusesIndex("7: last -1", x, () -> x.decant(0, 1, -1));
    Check.refusesIndex("7: last 12, and the same jar", x, () -> x.decant(1, 1, 12));
    for (int k = 0; k < 5; k++) {
      x.pour(2, 11, 3, 996);
    }
    Check.refusesState("7: 5010", x, () -> x.decant(0, 2, 11));
    Check.same("7: the first slices of it", 0, x.decant(0, 2, 4));
    x.draw(0, 5, 34);
    Check.same("7: 5000", 20, x.decant(0, 2, 11));
    Check.same("7: a full jar", 5000, x.jar(2, 0));
    Check.refusesState("7: one more", x, () -> x.decant(1, 2, 0));
    x.draw(1, 0, 100);
    Check.same("7: none more", 0, x.decant(1, 2, 0));
  }

  private static void promise8() {
    SettlingJars x = new SettlingJars();
    x.pour(0, 0, 0, 200);
    x.pour(0, 5, 1, 250);
    x.pour(0, 6, 2, 199);
    x.pour(0, 9, 3, 300);
    Check.same("8: packed slices", 3, x.turn(0));
    Check.same("8: slice 0 to 11", 200, x.slice(0, 11, 0));
    Check.same("8: slice 5 to 6", 250, x.slice(0, 6, 1));
    Check.same("8: slice 6 to 5", 199, x.slice(0, 5, 2));
    Check.same("8: slice 9 to 2", 300, x.slice(0, 2, 3));
    Check.same("8: nothing else", 949, x.jar(0, 0));
    Check.same("8: nothing stays above", 0, x.slice(0, 0, 4));
    x.pour(0, 0, 0, 200);
    Check.same("8: packed at the top and at the bottom", 4, x.turn(0));
    x.undo();
    x.undo();
    Check.same("8: an empty jar", 0, x.turn(1));
    Check.same("8: the other jar", 949, x.jar(0, 0));
    x.undo();
    x.undo();
    Check.same("8: undone", 200, x.slice(0, 0, 0));
    Check.refusesIndex("8: jar -1", x, () -> x.turn(-1));
    Check.refusesIndex("8: jar 3", x, () -> x.turn(3));
  }

  private static void promise9() {
    SettlingJars x = new SettlingJars();
    x.pour(0, 0, 0, 100);
    Check.same("9: the first step", 20, x.settle(1));
    Check.same("9: the second step", 6 + 17, x.settle(1));
    Check.same("9: slice 0", 63, x.slice(0, 0, 0));
    Check.same("9: slice 1", 31, x.slice(0, 1, 0));
    Check.same("9: slice 2", 6, x.slice(0, 2, 0));
    Check.same("9: steps", 2, x.count(0));
    Check.same("9: fallen", 43, x.count(4));
    SettlingJars y = new SettlingJars();
    y.pour(0, 0, 0, 100);
    y.pour(2, 0, 0, 100);
    Check.same("9: all jars, in two steps", 86, y.settle(2));
    Check.same("9: the last jar", 31, y.slice(2, 1, 0));
    y.undo();
    Check.same("9: undone as one call", 100, y.slice(0, 0, 0));
    Check.same("9: no steps", 0, y.count(0));
    Check.same("9: none fallen", 0, y.count(4));
    Check.refusesArgument("9: 0 steps", y, () -> y.settle(0));
    Check.refusesArgument("9: 101 steps", y, () -> y.settle(101));
    Check.refusesArgument("9: -1 steps", y, () -> y.settle(-1));
    Check.refusesArgument("9: very many", y, () -> y.settle(Integer.MAX_VALUE));
  }

  /** Falling in detail: room, the order of the classes, the residue, the bottom. */
  private static void promise9Rules() {
    SettlingJars x = new SettlingJars();
    x.set(0, 0);
    x.set(1, 10);
    x.pour(0, 11, 3, 8);
    x.pour(0, 10, 0, 5);
    x.pour(0, 10, 1, 5);
    Check.same("9: class 0 takes the room", 2, x.settle(1));
    Check.same("9: class 0 fell", 2, x.slice(0, 11, 0));
    Check.same("9: class 1 did not", 0, x.slice(0, 11, 1));
    Check.same("9: a full bottom", 0, x.settle(100));

    SettlingJars one = new SettlingJars();
    one.pour(0, 0, 0, 1);
    Check.same("9: one grain, slice by slice", 11, one.settle(100));
    Check.same("9: all steps have passed", 100, one.count(0));
    one.draw(0, 11, 100);
    one.set(0, 0);
    one.setSpeed(2, 100);
    one.pour(0, 4, 2, 199);
    one.setSpeed(2, 99);
    Check.same("9: how many fall is truncated", 197, one.settle(1));
    one.set(0, 1);
    one.setSpeed(1, 91);
    one.pour(1, 0, 1, 11);
    one.draw(0, 4, 100);
    one.draw(0, 5, 100);
    Check.same("9: 9.99999 are nine", 9, one.settle(1));

    SettlingJars y = new SettlingJars();
    y.set(3, 9);
    y.pour(0, 10, 3, 9);
    y.pour(0, 3, 3, 10);
    y.pour(0, 5, 0, 9);
    Check.same("9: over the residue one, by its speed three", 1 + 3, y.settle(1));
    Check.same("9: the residue stays", 9, y.slice(0, 10, 3));
    Check.same("9: one fell", 1, y.slice(0, 4, 3));
    Check.same("9: three fell", 3, y.slice(0, 6, 0));

    SettlingJars z = new SettlingJars();
    z.set(0, 0);
    z.setSpeed(1, 100);
    z.pour(1, 0, 1, 150);
    z.pour(1, 1, 1, 100);
    z.pour(1, 2, 1, 150);
    z.pour(1, 3, 1, 200);
    Check.same("9: each slice in its turn, from below", 200 + 150 + 100 + 150, z.settle(1));
    Check.same("9: moved on as a whole", 150, z.slice(1, 3, 1));
    Check.same("9: the top is empty", 0, z.slice(1, 0, 1));
    int depthsNow = 200 * 4 + 150 * 3 + 100 * 2 + 150;
    Check.same("9: three packed slices in the end", 200 * (11 + 10 + 9) - depthsNow, z.settle(100));
    Check.same("9: a bed of three", 3, z.jar(1, 5));
  }

  private static void promise9Limit() {
    SettlingJars x = new SettlingJars();
    for (int k = 0; k < 99; k++) {
      x.settle(100);
    }
    x.settle(99);
    Check.same("9: steps", 9999, x.count(0));
    Check.refusesState("9: 10001 steps", x, () -> x.settle(2));
    Check.refusesArgument("9: 101 steps at the limit", x, () -> x.settle(101));
    x.settle(1);
    Check.same("9: all steps", 10000, x.count(0));
    Check.refusesState("9: one more", x, () -> x.settle(1));
    x.undo();
    x.settle(1);
    Check.same("9: all steps again", 10000, x.count(0));
    x.pour(0, 0, 0, 20);
    Check.holds("9: questions know no limit", x.ifSettled(0, 100, 6) > 0 && x.restIn(0) > 0);
  }

  private static void promise10() {
    SettlingJars x = new SettlingJars();
    Check.refusesArgument("10: 32", x, () -> x.append(32));
    Check.refusesArgument("10: 127", x, () -> x.append(127));
    Check.refusesArgument("10: 97 + 65536", x, () -> x.append(97 + 65536));
    Check.refusesArgument("10: -1", x, () -> x.append(-1));
    Check.same("10: 33", 1, x.append(33));
    Check.same("10: 126", 2, x.append(126));
    for (int k = 3; k <= 60; k++) {
      Check.same("10: the length", k, x.append(48));
    }
    Check.refusesState("10: a full buffer", x, () -> x.append(48));
    Check.refusesArgument("10: a full buffer, and 127", x, () -> x.append(127));
    Check.same("10: nothing is saved", 0, x.count(5));
    Check.same("10: the length is kept", 60, x.clearBuffer());
  }

  private static void promise11() {
    SettlingJars x = new SettlingJars();
    Check.same("11: an empty buffer", 0, x.clearBuffer());
    type(x, "12a");
    Check.same("11: three characters", 3, x.clearBuffer());
    Check.same("11: empty then", 0, x.clearBuffer());
    Check.same("11: from the start", 1, x.append('5'));
    Check.same("11: what was there is gone", 1, x.firstError());
    Check.same("11: nothing is saved", 0, x.count(5));
  }

  private static void promise12() {
    String[] right = {"", "1", "12", "123", "999d", "1a", "1a@", "1a@0", "1a@1", "1a@10", "1a@11",
        "1a@9", "1a+", "1a@11+", "1a@1+9b", "30c@2+1d+500a@7", "1a+2b+3c+4d"};
    for (String text : right) {
      Check.same("12: " + text, text.length(), errorOf(text));
    }
    String[] wrongAtEnd = {"0", "a", "+", "@", "-", "1e", "1A", "1`", "1:", "1/", "1@", "1+", "1000",
        "12e", "123@", "01", "1aa", "1a1", "1a@a", "1a@+", "1a@-", "1a@01", "1a@12", "1a@19",
        "1a@20", "1a@9a", "1a@100", "1a@0@", "1a@10a", "1a@1@", "1a@:", "1a++", "1a+0", "1a+a",
        "1a,", "9a@110"};
    for (String text : wrongAtEnd) {
      int at = text.equals("01") ? 0 : text.equals("1a@01") ? 4 : text.length() - 1;
      Check.same("12: " + text, at, errorOf(text));
      Check.same("12: " + text + " and more", at, errorOf(text + "1a"));
    }
    Check.same("12: only the first counts", 1, errorOf("1x+0y"));
    StringBuilder full = new StringBuilder();
    for (int k = 0; k < 12; k++) {
      full.append("999a+");
    }
    Check.same("12: a charge may be longer than the buffer", 60, errorOf(full.toString()));
    SettlingJars x = new SettlingJars();
    type(x, "1a!");
    long before = x.digest();
    x.firstError();
    Check.same("12: nothing is changed", before, x.digest());
  }

  private static void promise13() {
    SettlingJars x = new SettlingJars();
    x.pour(1, 0, 0, 1);
    type(x, "300a+20b@3+150c+99d@11+7a@5+1b@10+2b@1");
    Check.same("13: all grains then", 580, x.load(1));
    Check.same("13: slice 0 without a slice", 301, x.slice(1, 0, 0));
    Check.same("13: slice 0 again", 150, x.slice(1, 0, 2));
    Check.same("13: slice 3", 20, x.slice(1, 3, 1));
    Check.same("13: slice 5", 7, x.slice(1, 5, 0));
    Check.same("13: slice 11", 99, x.slice(1, 11, 3));
    Check.same("13: slice 10", 1, x.slice(1, 10, 1));
    Check.same("13: slice 1", 2, x.slice(1, 1, 1));
    int[] poured = {308, 23, 150, 99};
    for (int grain = 0; grain < 4; grain++) {
      Check.same("13: poured", poured[grain], x.grains(grain, 0));
    }
    Check.same("13: the buffer is cleared", 0, x.clearBuffer());
    Check.same("13: the same slice twice", 584, loadInto(x, 1, "1a@4+2a@4+1b@4"));
    Check.same("13: their sum", 3, x.slice(1, 4, 0));
    x.undo();
    Check.same("13: the buffer does not come back", 0, x.clearBuffer());
    Check.same("13: undone", 580, x.jar(1, 0));
    Check.same("13: undone in the account", 308, x.grains(0, 0));
    String[] bad = {"", "1", "12", "123", "1a@", "1a+", "1a@3+", "1a@3+4", "1x", "0a", "1a@12",
        "1a1a", "1a!", "!1a", "1a@1a", "!x1a", "1a!!1b", "1a@12+3b", "01a"};
    for (String text : bad) {
      type(x, text);
      Check.refusesArgument("13: " + text, x, () -> x.load(0));
      Check.refusesIndex("13: jar 3, " + text, x, () -> x.load(3));
      Check.same("13: the buffer is kept", text.length(), x.clearBuffer());
    }
    x.restIn(1);
    x.ifSettled(1, 3, 0);
    Check.same("13: nothing comes from a look ahead", 1, loadInto(x, 0, "1d@7"));
    Check.same("13: just one grain", 1, x.slice(0, 7, 3));
    type(x, "1a");
    Check.refusesIndex("13: jar -1", x, () -> x.load(-1));
    Check.refusesIndex("13: jar 3", x, () -> x.load(3));
    Check.same("13: not yet cleared", 2, x.clearBuffer());
  }

  private static int loadInto(SettlingJars x, int jar, String text) {
    type(x, text);
    return x.load(jar);
  }

  private static void promise13Limit() {
    SettlingJars x = new SettlingJars();
    String most = "999a+999b+999c+999d+999a@11+5a@11";
    type(x, most);
    Check.same("13: 5000", 5000, x.load(0));
    type(x, "1a");
    Check.refusesState("13: a full jar", x, () -> x.load(0));
    Check.same("13: the buffer is kept", 2, x.clearBuffer());
    type(x, "999a+999b+999c+999d+999a@11+6a@11");
    Check.refusesState("13: 5001", x, () -> x.load(1));
    x.clearBuffer();
    type(x, "999a+999a+999a+999a+999a+999a+999a+999a+999a+999a+999a+999a");
    Check.refusesState("13: very many", x, () -> x.load(1));
    x.append('+');
    Check.refusesArgument("13: very many, and not complete", x, () -> x.load(1));
    x.clearBuffer();
    x.pour(1, 0, 0, 1);
    type(x, most);
    Check.refusesState("13: one too many", x, () -> x.load(1));
  }

  private static void promise14() {
    SettlingJars x = new SettlingJars();
    Check.refusesState("14: no saved state", x, () -> x.undo());
    for (int k = 1; k <= 8; k++) {
      x.pour(0, 0, 0, 1);
      Check.same("14: saved states", Math.min(k, 6), x.count(5));
    }
    type(x, "1b");
    for (int k = 5; k >= 0; k--) {
      Check.same("14: left", k, x.undo());
      Check.same("14: restored", k + 2, x.jar(0, 0));
    }
    Check.refusesState("14: none left", x, () -> x.undo());
    Check.same("14: the buffer stays", 2, x.clearBuffer());
    x.pour(0, 0, 0, 5);
    x.pour(0, 0, 0, 7);
    x.undo();
    x.pour(0, 0, 0, 9);
    Check.same("14: two are saved", 2, x.count(5));
    x.undo();
    Check.same("14: the one between", 7, x.jar(0, 0));
    x.undo();
    Check.same("14: the first one", 2, x.jar(0, 0));
  }

  /** Each undoable method saves one state, all of it, and the others save none. */
  private static void promise14OfEach() {
    SettlingJars x = new SettlingJars();
    type(x, "44a@3+17b@4+300c+2d@9");
    x.load(1);
    x.pour(2, 1, 1, 40);
    x.settle(3);
    x.draw(1, 0, 30);
    type(x, "5a");
    Check.Call[] calls = {() -> x.set(0, 7), () -> x.setSpeed(1, 99), () -> x.pour(0, 1, 2, 3),
        () -> x.stir(1, 0, 11), () -> x.draw(1, 0, 50), () -> x.decant(1, 0, 5), () -> x.turn(1),
        () -> x.settle(30)};
    for (int k = 0; k < calls.length; k++) {
      undoes("14: call " + k, x, calls[k]);
    }
    SettlingJars y = new SettlingJars();
    long before = y.digest();
    type(y, "5a");
    y.load(0);
    y.undo();
    Check.same("14: load", before, y.digest());
    y.pour(0, 0, 0, 1);
    y.append('1');
    y.firstError();
    y.clearBuffer();
    y.slice(0, 0, 0);
    y.why(0, 0, 0);
    y.ifSettled(0, 100, 0);
    y.clearIn(0, 12);
    y.restIn(0);
    Check.same("14: the others save nothing", 1, y.count(5));
  }

  private static void undoes(String what, SettlingJars x, Check.Call call) {
    long before = x.digest();
    int saved = x.count(5);
    call.run();
    Check.same(what + " saves one", saved + 1, x.count(5));
    Check.holds(what + " changes something", before != x.digest());
    Check.same(what + " is undone", saved, x.undo());
    Check.same(what + " leaves nothing", before, x.digest());
  }

  private static void promise15() {
    SettlingJars x = new SettlingJars();
    x.pour(2, 7, 1, 120);
    x.pour(2, 7, 2, 50);
    x.pour(2, 7, 3, 29);
    int[] due = {0, 120, 50, 29, 199, 0, 0, 1, 334, 1};
    for (int what = 0; what < 10; what++) {
      Check.same("15: property " + what, due[what], x.slice(2, 7, what));
    }
    x.pour(2, 7, 0, 1);
    Check.same("15: packed", 1, x.slice(2, 7, 5));
    Check.same("15: no room", 0, x.slice(2, 7, 9));
    x.pour(2, 7, 0, 119);
    Check.same("15: the lowest of two leading", 0, x.slice(2, 7, 7));
    Check.same("15: over packed, no room", 0, x.slice(2, 7, 9));
    x.pour(2, 11, 3, 3);
    Check.same("15: clear", 1, x.slice(2, 11, 6));
    Check.same("15: the bottom has a factor", 970, x.slice(2, 11, 8));
    Check.same("15: the bottom has room", 197, x.slice(2, 11, 9));
    Check.same("15: class 3 leads", 3, x.slice(2, 11, 7));
    x.pour(2, 11, 2, 1);
    Check.same("15: no more clear", 0, x.slice(2, 11, 6));
    int[] empty = {0, 0, 0, 0, 0, 0, 1, NONE, 1000, 200};
    for (int what = 0; what < 10; what++) {
      Check.same("15: an empty slice, " + what, empty[what], x.slice(0, 0, what));
    }
    x.set(0, 15);
    Check.same("15: the factor truncates twice", 1000000 / 1006, x.slice(2, 11, 8));
    x.set(1, 10);
    x.set(2, 50);
    x.pour(1, 0, 0, 10);
    Check.same("15: packed and clear at once", 2, x.slice(1, 0, 5) + x.slice(1, 0, 6));
    x.pour(0, 6, 2, 1);
    Check.same("15: a single grain leads", 2, x.slice(0, 6, 7));
    Check.refusesArgument("15: what -1", x, () -> x.slice(0, 0, -1));
    Check.refusesArgument("15: what 10", x, () -> x.slice(0, 0, 10));
    Check.refusesIndex("15: jar -1", x, () -> x.slice(-1, 0, 0));
    Check.refusesIndex("15: jar 3", x, () -> x.slice(3, 0, 0));
    Check.refusesIndex("15: slice -1", x, () -> x.slice(0, -1, 0));
    Check.refusesIndex("15: slice 12, and what 10", x, () -> x.slice(0, 12, 10));
  }

  private static void promise16() {
    SettlingJars x = new SettlingJars();
    x.pour(0, 2, 0, 3);
    x.pour(0, 4, 1, 210);
    x.pour(0, 7, 1, 5);
    x.pour(0, 8, 0, 4);
    x.pour(0, 9, 3, 150);
    x.pour(0, 10, 3, 199);
    x.pour(0, 10, 2, 1);
    x.pour(0, 11, 0, 260);
    int[] due = {832, 267, 215, 1, 349, 2, 4, 460, 4, 0};
    for (int what = 0; what < 10; what++) {
      Check.same("16: property " + what, due[what], x.jar(0, what));
    }
    int[] empty = {0, 0, 0, 0, 0, 0, 12, 0, 0, 1};
    for (int what = 0; what < 10; what++) {
      Check.same("16: an empty jar, " + what, empty[what], x.jar(1, what));
    }
    x.pour(0, 0, 2, 1);
    Check.same("16: the top slice changes too", 5, x.jar(0, 8));
    x.undo();
    x.stir(0, 0, 11);
    x.set(1, 10);
    Check.same("16: all slices in the bed", 12, x.jar(0, 5));
    Check.same("16: all grains in the bed", 832, x.jar(0, 7));
    x.draw(0, 11, 100);
    Check.same("16: no bed over an empty bottom", 0, x.jar(0, 5));
    Check.refusesArgument("16: what -1", x, () -> x.jar(0, -1));
    Check.refusesArgument("16: what 10", x, () -> x.jar(0, 10));
    Check.refusesIndex("16: jar -1", x, () -> x.jar(-1, 0));
    Check.refusesIndex("16: jar 3, and what 10", x, () -> x.jar(3, 10));
  }

  private static void promise16Rest() {
    SettlingJars x = new SettlingJars();
    x.set(1, 10);
    x.pour(0, 11, 0, 10);
    Check.same("16: all at the bottom", 1, x.jar(0, 9));
    x.pour(0, 10, 0, 3);
    Check.same("16: no room below", 1, x.jar(0, 9));
    x.set(1, 11);
    Check.same("16: room below", 0, x.jar(0, 9));
    x.set(3, 9);
    Check.same("16: a fall by its speed, not over the residue", 0, x.jar(0, 9));
    x.setSpeed(0, 1);
    Check.same("16: the residue holds", 1, x.jar(0, 9));
    x.pour(0, 0, 3, 10);
    Check.same("16: the top slice", 0, x.jar(0, 9));
  }

  private static void promise17() {
    SettlingJars x = new SettlingJars();
    x.pour(0, 0, 2, 100);
    x.pour(2, 11, 2, 60);
    x.draw(0, 0, 25);
    x.decant(0, 1, 0);
    x.pour(0, 5, 2, 7);
    int[] due = {167, 25, 142, 10};
    for (int what = 0; what < 4; what++) {
      Check.same("17: account " + what, due[what], x.grains(2, what));
    }
    Check.same("17: another class", 0, x.grains(1, 0) + x.grains(1, 1) + x.grains(1, 2));
    Check.refusesArgument("17: what -1", x, () -> x.grains(0, -1));
    Check.refusesArgument("17: what 4", x, () -> x.grains(0, 4));
    Check.refusesIndex("17: class -1", x, () -> x.grains(-1, 0));
    Check.refusesIndex("17: class 4, and what 4", x, () -> x.grains(4, 4));
  }

  private static void promise18() {
    SettlingJars x = new SettlingJars();
    x.pour(0, 0, 0, 100);
    x.pour(1, 11, 1, 200);
    x.pour(2, 4, 2, 201);
    x.pour(2, 5, 2, 3);
    x.settle(1);
    int[] due = {1, 504, 1, 31, 20 + 201 * 10 * 332 / 100000 + 1, 5};
    for (int what = 0; what < 6; what++) {
      Check.same("18: count " + what, due[what], x.count(what));
    }
    x.pour(0, 0, 3, 120);
    x.pour(0, 11, 3, 200);
    x.pour(2, 0, 3, 200);
    x.pour(2, 11, 3, 200);
    Check.same("18: packed slices of all jars", 5, x.count(2));
    Check.same("18: clear slices of all jars", 28, x.count(3));
    Check.refusesArgument("18: what -1", x, () -> x.count(-1));
    Check.refusesArgument("18: what 6", x, () -> x.count(6));
  }

  private static void promise19() {
    SettlingJars x = new SettlingJars();
    x.set(2, 17);
    Check.same("19: hindrance", 100, x.setting(0));
    Check.same("19: packing", 200, x.setting(1));
    Check.same("19: clarity", 17, x.setting(2));
    Check.same("19: residue", 0, x.setting(3));
    Check.refusesIndex("19: setting -1", x, () -> x.setting(-1));
    Check.refusesIndex("19: setting 4", x, () -> x.setting(4));
  }

  private static void promise20() {
    SettlingJars x = new SettlingJars();
    x.set(3, 2);
    x.pour(0, 11, 0, 200);
    x.pour(0, 10, 0, 5);
    x.pour(0, 9, 3, 2);
    x.pour(0, 9, 2, 3);
    x.pour(0, 8, 0, 1);
    Check.same("20: the bottom", 1, x.why(0, 11, 0));
    Check.same("20: the bottom, no grains", 1, x.why(0, 11, 1));
    Check.same("20: no grains, no room", 2, x.why(0, 10, 1));
    Check.same("20: no grains", 2, x.why(0, 9, 0));
    Check.same("20: no room", 3, x.why(0, 10, 0));
    Check.same("20: none wants", 4, x.why(0, 9, 3));
    Check.same("20: one falls", 0, x.why(0, 9, 2));
    Check.same("20: a single one in the residue", 4, x.why(0, 8, 0));
    x.set(3, 0);
    Check.same("20: a single one falls", 0, x.why(0, 8, 0));
    x.set(3, 9);
    x.set(1, 10);
    Check.same("20: no room before none wants", 3, x.why(0, 10, 0));
    Check.refusesIndex("20: jar -1", x, () -> x.why(-1, 0, 0));
    Check.refusesIndex("20: jar 3", x, () -> x.why(3, 0, 0));
    Check.refusesIndex("20: slice -1", x, () -> x.why(0, -1, 0));
    Check.refusesIndex("20: slice 12", x, () -> x.why(0, 12, 0));
    Check.refusesIndex("20: class -1", x, () -> x.why(0, 0, -1));
    Check.refusesIndex("20: class 4", x, () -> x.why(0, 0, 4));
  }

  private static void promise21() {
    int[] stepsOf = {1, 2, 17, 100};
    for (int steps : stepsOf) {
      SettlingJars x = new SettlingJars();
      SettlingJars y = new SettlingJars();
      type(x, "300a+200b@3+150c+99d@1+7a@5");
      type(y, "300a+200b@3+150c+99d@1+7a@5");
      x.load(1);
      y.load(1);
      y.settle(steps);
      long before = x.digest();
      for (int what = 0; what < 9; what++) {
        Check.same("21: " + what + " in " + steps, y.jar(1, what), x.ifSettled(1, steps, what));
      }
      Check.same("21: nothing is changed", before, x.digest());
    }
    SettlingJars x = new SettlingJars();
    x.pour(0, 0, 0, 9);
    Check.same("21: another jar", 0, x.ifSettled(2, 5, 0));
    Check.refusesArgument("21: 0 steps", x, () -> x.ifSettled(0, 0, 0));
    Check.refusesArgument("21: 101 steps", x, () -> x.ifSettled(0, 101, 0));
    Check.refusesArgument("21: what -1", x, () -> x.ifSettled(0, 1, -1));
    Check.refusesArgument("21: what 9", x, () -> x.ifSettled(0, 1, 9));
    Check.refusesIndex("21: jar -1", x, () -> x.ifSettled(-1, 1, 0));
    Check.refusesIndex("21: jar 3, and all wrong", x, () -> x.ifSettled(3, 0, 9));
  }

  private static void promise22() {
    SettlingJars x = oneByOne();
    Check.same("22: clear now", 0, x.clearIn(0, 12));
    x.pour(0, 0, 0, 300);
    Check.same("22: in 300 steps", 300, x.clearIn(0, 1));
    Check.same("22: two slices later than that", NONE, x.clearIn(0, 2));
    x.pour(0, 0, 0, 1);
    Check.same("22: in 301 steps", NONE, x.clearIn(0, 1));
    x.set(2, 1);
    Check.same("22: by the clarity", 300, x.clearIn(0, 1));
    x.pour(1, 4, 0, 20);
    Check.same("22: four are clear", 0, x.clearIn(1, 4));
    Check.same("22: five, behind 19 steps", 19, x.clearIn(1, 5));
    Check.same("22: eleven at once, as one grain leaves them clear", 19, x.clearIn(1, 11));
    x.set(2, 0);
    Check.same("22: eleven, when the last grain has come down", 26, x.clearIn(1, 11));
    Check.same("22: never the bottom", NONE, x.clearIn(1, 12));
    x.set(3, 9);
    Check.same("22: the residue stays", NONE, x.clearIn(1, 5));
    long before = x.digest();
    x.clearIn(0, 1);
    Check.same("22: nothing is changed", before, x.digest());
    Check.refusesArgument("22: 0 slices", x, () -> x.clearIn(0, 0));
    Check.refusesArgument("22: 13 slices", x, () -> x.clearIn(0, 13));
    Check.refusesIndex("22: jar -1", x, () -> x.clearIn(-1, 1));
    Check.refusesIndex("22: jar 3, and 13 slices", x, () -> x.clearIn(3, 13));
  }

  private static void promise23() {
    SettlingJars x = oneByOne();
    Check.same("23: an empty jar", 0, x.restIn(0));
    x.pour(0, 11, 0, 5);
    Check.same("23: all at the bottom", 0, x.restIn(0));
    x.pour(0, 10, 0, 1);
    Check.same("23: one step", 1, x.restIn(0));
    x.pour(0, 10, 0, 599);
    Check.same("23: 600 steps", 600, x.restIn(0));
    x.pour(0, 10, 0, 1);
    Check.same("23: 601 steps", NONE, x.restIn(0));
    Check.same("23: another jar", 0, x.restIn(1));
    x.set(1, 500);
    Check.same("23: until the bottom is packed", 495, x.restIn(0));
    long before = x.digest();
    x.restIn(0);
    Check.same("23: nothing is changed", before, x.digest());
    Check.refusesIndex("23: jar -1", x, () -> x.restIn(-1));
    Check.refusesIndex("23: jar 3", x, () -> x.restIn(3));
  }

  private static void promise24() {
    SettlingJars x = new SettlingJars();
    Check.same("24: an empty jar", NONE, x.purest(0, 0));
    x.pour(0, 2, 0, 333);
    x.pour(0, 2, 1, 667);
    x.pour(0, 5, 0, 1);
    x.pour(0, 5, 1, 2);
    x.pour(0, 8, 0, 300);
    x.pour(0, 8, 3, 600);
    Check.same("24: a third is more than 333 of 1000", 5, x.purest(0, 0));
    Check.same("24: 667 of 1000 are more than two thirds", 2, x.purest(0, 1));
    Check.same("24: none of class 2", NONE, x.purest(0, 2));
    Check.same("24: class 3", 8, x.purest(0, 3));
    x.pour(0, 11, 0, 1);
    Check.same("24: alone", 11, x.purest(0, 0));
    x.pour(0, 0, 0, 1);
    Check.same("24: the highest of several", 0, x.purest(0, 0));
    Check.same("24: another jar", NONE, x.purest(1, 0));
    Check.refusesIndex("24: jar -1", x, () -> x.purest(-1, 0));
    Check.refusesIndex("24: jar 3", x, () -> x.purest(3, 0));
    Check.refusesIndex("24: class -1", x, () -> x.purest(0, -1));
    Check.refusesIndex("24: class 4", x, () -> x.purest(0, 4));
  }

  private static void promise25() {
    SettlingJars x = new SettlingJars();
    Check.sameBits("25: an empty jar", 0.0, x.meanDepth(0));
    x.pour(0, 0, 0, 2);
    Check.sameBits("25: at the top", 0.0, x.meanDepth(0));
    x.pour(0, 11, 3, 1);
    Check.sameBits("25: a third of 11", 11.0 / 3, x.meanDepth(0));
    x.pour(0, 4, 1, 4);
    Check.sameBits("25: 27 sevenths", 27.0 / 7, x.meanDepth(0));
    Check.sameBits("25: another jar", 0.0, x.meanDepth(1));
    x.pour(1, 11, 1, 999);
    Check.sameBits("25: at the bottom", 11.0, x.meanDepth(1));
    Check.refusesIndex("25: jar -1", x, () -> x.meanDepth(-1));
    Check.refusesIndex("25: jar 3", x, () -> x.meanDepth(3));
  }
}
