import java.util.Set;
import java.util.TreeSet;

/** Long runs of calls, the same at each start, on the class and on the model of it, compared call by call. */
public final class ModelTest {
  private static final int RUNS = 1500;

  /** What the crowded runs are there for. */
  private static final String[] DUE = {
    "addRule IllegalStateException", "takeBack UnsupportedOperationException", "all rules", "all pairs",
    "several rules learned at once", "a later word lost", "a shadow", "a collision", "deed 0", "deed 1", "deed 2",
    "deed 3", "deed 4", "deed 5", "deed 6",
  };

  private int wrong;
  private long calls;

  public static void main(String[] args) {
    ModelTest test = new ModelTest();
    Set<String> met = new TreeSet<>();
    for (int run = 0; run < RUNS && test.wrong < 5; run++) {
      test.play(new MixedRun(run, new TreeSet<>()));
      test.play(new CrowdedRun(run, met));
    }
    System.out.println(test.calls + " calls compared with the model, " + test.wrong + " runs wrong");
    boolean isMissed = false;
    for (String due : DUE) {
      if (!met.contains(due)) {
        isMissed = true;
        System.out.println("no crowded run met: " + due);
      }
    }
    if (test.wrong != 0 || isMissed) {
      System.exit(1);
    }
  }

  private void play(ModelRun run) {
    run.play();
    calls += run.made();
    wrong += run.isWrong() ? 1 : 0;
  }
}
