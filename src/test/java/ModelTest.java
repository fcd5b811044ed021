/** Long runs of calls, made up by fixed numbers: the program answers as the model does. */
public final class ModelTest {
  private static final int RUNS = 1200;
  /** The document promises nothing about an object behind them. */
  private static final int MOST_CALLS = 512;
  /** The calls that one turn of a run takes at most: a text with all about it, and a digest. */
  private static final int CALLS_OF_A_TURN = 70;
  private static final String TEXT_SIGNS = "0123456789abcde@+@+abcd1!";

  private long seed;
  private SettlingJars x;
  private Model model;
  private int calls;
  private int answered;
  private int refused;

  public static void main(String[] args) {
    ModelTest test = new ModelTest();
    for (int run = 0; run < RUNS; run++) {
      test.run(run);
    }
    Check.holds("most calls should be answered", test.answered > 3 * test.refused);
    Check.holds("many calls should be refused", test.refused > RUNS * 20);
    Check.end("ModelTest");
  }

  private void run(int run) {
    seed = 77777L * run + 5;
    x = new SettlingJars();
    model = new Model();
    calls = 0;
    for (int turn = 0; calls + CALLS_OF_A_TURN <= MOST_CALLS; turn++) {
      int kind = number(0, 30);
      int[] a = {0, 0, 0, 0};
      fill(kind, a);
      String name = "run " + run + ", turn " + turn + ", kind " + kind + " (" + a[0] + ", " + a[1]
          + ", " + a[2] + ", " + a[3] + ")";
      compare(name, kind, a);
      if (turn % 32 == 31) {
        Check.same(name + ", digest", model.digest(), x.digest());
        calls++;
      }
    }
  }

  /** From least to most, both of them included. */
  private int number(int least, int most) {
    seed = seed * 6364136223846793005L + 1442695040888963407L;
    return least + (int) ((seed >>> 33) % (most - least + 1));
  }

  /** Mostly in the range, with its ends more often than by chance, and now and then outside. */
  private int argument(int least, int most) {
    int kind = number(0, 99);
    if (kind == 0) {
      return least - 1;
    }
    if (kind == 1) {
      return most + 1;
    }
    return kind < 7 ? least : kind < 13 ? most : number(least, most);
  }

  private void fill(int kind, int[] a) {
    switch (kind) {
      case 0: a[0] = argument(0, 3); a[1] = value(a[0]); break;
      case 1: a[0] = argument(0, 3); a[1] = argument(1, number(1, 100)); break;
      case 2: case 3: case 4: case 5:
        a[0] = argument(0, 2); a[1] = argument(0, 11); a[2] = argument(0, 3);
        a[3] = number(0, 2) == 0 ? argument(1, 20) : argument(1, 999); break;
      case 6: a[0] = argument(0, 2); a[1] = argument(0, 6); a[2] = argument(5, 11); break;
      case 7: a[0] = argument(0, 2); a[1] = argument(0, 11); a[2] = argument(1, 100); break;
      case 8: a[0] = argument(0, 2); a[1] = (a[0] + argument(1, 2)) % 3; a[2] = argument(0, 11); break;
      case 9: a[0] = argument(0, 2); break;
      case 10: case 11: case 12: a[0] = number(0, 3) == 0 ? argument(1, 100) : argument(1, 5); break;
      case 13: case 14: a[0] = argument(33, 126); break;
      case 15: a[0] = number(0, 60); break;
      case 16: break;
      case 17: case 18: a[0] = argument(0, 2); break;
      case 19: break;
      case 20: a[0] = argument(0, 2); a[1] = argument(0, 11); a[2] = argument(0, 9); break;
      case 21: a[0] = argument(0, 2); a[1] = argument(0, 9); break;
      case 22: a[0] = argument(0, 3); a[1] = argument(0, 3); break;
      case 23: a[0] = argument(0, 5); break;
      case 24: a[0] = argument(0, 3); break;
      case 25: a[0] = argument(0, 2); a[1] = argument(0, 11); a[2] = argument(0, 3); break;
      case 26: a[0] = argument(0, 2); a[1] = argument(1, 100); a[2] = argument(0, 8); break;
      case 27: a[0] = argument(0, 2); a[1] = argument(1, 12); break;
      case 28: a[0] = argument(0, 2); break;
      case 29: a[0] = argument(0, 2); a[1] = argument(0, 3); break;
      default: a[0] = argument(0, 2); break;
    }
  }

  private int value(int setting) {
    switch (setting) {
      case 0: return argument(0, number(0, 1000));
      case 1: return argument(10, number(10, 1000));
      case 2: return argument(0, 50);
      default: return argument(0, 9);
    }
  }

  private void compare(String name, int kind, int[] a) {
    if (kind == 15) {
      typeBoth(name, a[0]);
      return;
    }
    calls++;
    Object due = answer(() -> ofModel(kind, a));
    Object got = answer(() -> ofProgram(kind, a));
    if (due instanceof Class) {
      refused++;
    } else {
      answered++;
    }
    Check.holds(name + " answered " + got + ", due is " + due, due.equals(got));
  }

  private interface Call {
    double run();
  }

  private static Object answer(Call call) {
    try {
      return call.run();
    } catch (RuntimeException e) {
      return e.getClass();
    }
  }

  /** Types a charge, whole, cut off, or spoilt at one place. */
  private void typeBoth(String name, int length) {
    StringBuilder text = new StringBuilder();
    calls += 2;
    while (text.length() < length) {
      text.append(text.length() == 0 ? "" : "+");
      text.append(number(1, number(0, 3) == 0 ? 999 : 30)).append((char) number('a', 'd'));
      text.append(number(0, 1) == 0 ? "" : "@" + number(0, 11));
    }
    int spoiling = number(0, 5);
    if (spoiling == 0) {
      text.setLength(length);
    } else if (spoiling == 1 && length > 0) {
      text.setCharAt(number(0, length - 1), TEXT_SIGNS.charAt(number(0, TEXT_SIGNS.length() - 1)));
    }
    if (number(0, 4) > 0) {
      Check.same(name, model.clearBuffer(), x.clearBuffer());
    }
    for (int k = 0; k < text.length(); k++) {
      int code = text.charAt(k);
      calls++;
      Check.holds(name + " append",
          answer(() -> model.append(code)).equals(answer(() -> x.append(code))));
    }
    Check.same(name + " firstError of " + text, model.firstError(), x.firstError());
  }

  private double ofModel(int kind, int[] a) {
    switch (kind) {
      case 0: return model.set(a[0], a[1]);
      case 1: return model.setSpeed(a[0], a[1]);
      case 2: case 3: case 4: case 5: return model.pour(a[0], a[1], a[2], a[3]);
      case 6: return model.stir(a[0], a[1], a[2]);
      case 7: return model.draw(a[0], a[1], a[2]);
      case 8: return model.decant(a[0], a[1], a[2]);
      case 9: return model.turn(a[0]);
      case 10: case 11: case 12: return model.settle(a[0]);
      case 13: return model.append(a[0]);
      case 14: return model.firstError();
      case 16: return model.clearBuffer();
      case 17: case 18: return model.load(a[0]);
      case 19: return model.undo();
      case 20: return model.slice(a[0], a[1], a[2]);
      case 21: return model.jar(a[0], a[1]);
      case 22: return model.grains(a[0], a[1]);
      case 23: return model.count(a[0]);
      case 24: return model.setting(a[0]);
      case 25: return model.why(a[0], a[1], a[2]);
      case 26: return model.ifSettled(a[0], a[1], a[2]);
      case 27: return model.clearIn(a[0], a[1]);
      case 28: return model.restIn(a[0]);
      case 29: return model.purest(a[0], a[1]);
      default: return model.meanDepth(a[0]);
    }
  }

  private double ofProgram(int kind, int[] a) {
    switch (kind) {
      case 0: return x.set(a[0], a[1]);
      case 1: return x.setSpeed(a[0], a[1]);
      case 2: case 3: case 4: case 5: return x.pour(a[0], a[1], a[2], a[3]);
      case 6: return x.stir(a[0], a[1], a[2]);
      case 7: return x.draw(a[0], a[1], a[2]);
      case 8: return x.decant(a[0], a[1], a[2]);
      case 9: return x.turn(a[0]);
      case 10: case 11: case 12: return x.settle(a[0]);
      case 13: return x.append(a[0]);
      case 14: return x.firstError();
      case 16: return x.clearBuffer();
      case 17: case 18: return x.load(a[0]);
      case 19: return x.undo();
      case 20: return x.slice(a[0], a[1], a[2]);
      case 21: return x.jar(a[0], a[1]);
      case 22: return x.grains(a[0], a[1]);
      case 23: return x.count(a[0]);
      case 24: return x.setting(a[0]);
      case 25: return x.why(a[0], a[1], a[2]);
      case 26: return x.ifSettled(a[0], a[1], a[2]);
      case 27: return x.clearIn(a[0], a[1]);
      case 28: return x.restIn(a[0]);
      case 29: return x.purest(a[0], a[1]);
      default: return x.meanDepth(a[0]);
    }
  }
}
