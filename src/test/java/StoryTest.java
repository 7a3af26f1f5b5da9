/**
 * Stories are walked from day to day and back to marks: whatever day was asked for before, and whatever flows and trees
 * were told since, each day must tell what Model tells, which walks all days anew. Held beside the edges of the marks.
 */
public final class StoryTest {
  private static final int[] DAYS = {0, 1, 38, 39, 40, 41, 78, 79, 80, 81, 119, 120, 199, 200, 359, 360, 361, 398, 399};
  private static int wrong = 0;
  private RiverFeet feet = new RiverFeet();
  private Model model = new Model();

  public static void main(String[] args) {
    for (int before : DAYS) for (int changed : DAYS) for (int asked : DAYS) new StoryTest().go(before, changed, asked);
    new StoryTest().longWay();
    System.out.println(wrong == 0 ? "all stories are as the model's" : wrong + " answers are not as the model's");
    if (wrong != 0) System.exit(1);
  }

  private StoryTest() {
    feet.bed();
    model.bed();
    for (int i = 0; i < 3; i++) {
      feet.pier(0, 9 + i, 200, 20, 9);
      model.pier(0, 9 + i, 200, 20, 9);
    }
    for (int d = 0; d < 400; d += 60) flows(d, 60, 5 + d % 37, 1);
  }

  private void flows(int day, int n, int f, int step) {
    feet.flows(day, 2, n, f, step);
    model.flows(day, 2, n, f, step);
  }

  private void due(String what, int got, int want) {
    if (got == want) return;
    wrong++;
    if (wrong < 20) System.out.println(what + " answered " + got + ", due is " + want);
  }

  private void dueOn(int day, String story) {
    for (int p = 0; p < 2; p++) {
      for (int mind = 3 * p; mind < 64; mind += 13) {
        for (int what = 0; what < 4; what++) {
          due(story + "hole(" + p + ", " + mind + ", " + day + ", " + what + ")",
              feet.hole(p, mind, day, what), model.hole(p, mind, day, what));
        }
      }
    }
  }

  private void go(int before, int changed, int asked) {
    String story = before + ", flows " + changed + ", " + asked + ": ";
    feet.hole(0, 0, before, 0);
    feet.hole(1, 0, asked, 0);
    flows(changed, 1, 90, 0);
    dueOn(asked, story);
    dueOn(before, story);
    feet.tree(1, changed, 7);
    model.tree(1, changed, 7);
    dueOn(asked, story + "tree, ");
    dueOn(changed, story + "tree, ");
    due(story + "when", feet.when(1, before % 64, 1), model.when(1, before % 64, 1));
  }

  /** Days far apart and near, up and down, one object. */
  private void longWay() {
    for (int i = 0, day = 0; i < 400; i++, day = (day + 143) % 400) {
      dueOn(day, "");
      due("when", feet.when(0, i % 64, i % 2), model.when(0, i % 64, i % 2));
      if (i % 25 == 0) flows((day + 57) % 400, 3, i % 99, 1);
    }
    for (int day = 399; day >= 0; day--) dueOn(day, "");
    for (int day = 0; day < 400; day++) dueOn(day, "");
  }
}
