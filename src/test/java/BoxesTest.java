/** Promises 32 to 35: boxes. */
public final class BoxesTest {
    private static final int NONE = OrchestraLibrary.NONE;
    private static final int BAD = OrchestraLibrary.BAD;
    private static final int UNLIKE = OrchestraLibrary.UNLIKE;
    private static final int NOTHING = OrchestraLibrary.NOTHING;
    private static final Checks CHECKS = new Checks("BoxesTest");

    public static void main(String[] args) {
        box();
        put();
        sorts();
        look();
        likeBox();
        boxesAreNoPartOfTheSnapshot();
        CHECKS.finish();
    }

    private static void due(String call, int got, int want) {
        CHECKS.due(call, got, want);
    }

    private static OrchestraLibrary withEditions() {
        OrchestraLibrary x = new OrchestraLibrary();
        x.edition(0, 4, 4);
        x.derive(0);
        return x;
    }

    private static void box() {
        OrchestraLibrary x = withEditions();
        due("-1", x.box(-1, 0, 1), NONE);
        due("3", x.box(3, 9, 9), NONE);
        due("sort -1", x.box(0, -1, 1), BAD);
        due("sort 4", x.box(0, 4, 1), BAD);
        due("places -1", x.box(0, 0, -1), BAD);
        due("places 9", x.box(0, 0, 9), BAD);
        due("most", x.box(0, 0, 8), 0);
        for (int place = 0; place < 8; place++) {
            due("empty", x.look(0, place, 0), NOTHING);
        }
        due("place 8", x.look(0, 8, 0), NONE);
        x.put(0, 0, 0, 0);
        x.put(0, 7, 1, -1);
        due("things", x.box(0, 1, 2), 2);
        due("emptied", x.look(0, 0, 0), NOTHING);
        due("place 2", x.look(0, 2, 0), NONE);
        due("emptied", x.box(0, 3, 0), 0);
        due("no places", x.put(0, 0, 0, 0), NONE);
        x.box(0, 0, 8);
        due("places are empty again", x.look(0, 7, 0), NOTHING);
    }

    private static void put() {
        OrchestraLibrary x = withEditions();
        due("no places", x.put(0, 0, 0, 0), NONE);
        x.box(0, 0, 2);
        due("box", x.put(3, 0, 0, 0), NONE);
        due("box", x.put(-1, 0, 0, 0), NONE);
        due("place", x.put(0, -1, 0, 0), NONE);
        due("place", x.put(0, 2, 0, 0), NONE);
        due("edition", x.put(0, 0, 2, 0), NONE);
        due("edition", x.put(0, 0, -1, 0), NONE);
        due("instrument", x.put(0, 0, 0, 6), NONE);
        due("instrument", x.put(0, 0, 0, -2), NONE);
        due("score", x.put(0, 0, 1, -1), 1);
        due("in place", x.put(0, 0, 0, 5), 0);
        due("edition", x.look(0, 0, 0), 0);
        due("instrument", x.look(0, 0, 1), 5);
        due("same thing elsewhere", x.put(0, 1, 0, 5), 1);
        x.box(1, 1, 1);
        due("none ahead of unlike", x.put(1, 0, 0, 6), NONE);
        due("none ahead of unlike", x.put(1, 0, 2, 0), NONE);
    }

    private static void sorts() {
        OrchestraLibrary x = withEditions();
        for (int sort = 0; sort < 4; sort++) {
            x.box(2, sort, 8);
            for (int instrument = -1; instrument < 6; instrument++) {
                boolean isTaken = sort == 0 || sort == 1 && instrument == -1 || sort == 2 && instrument >= 0
                    || sort == 3 && instrument >= 0 && instrument <= 3;
                due("sort " + sort + ", instrument " + instrument, x.put(2, instrument + 1, 0, instrument),
                    isTaken ? 1 : UNLIKE);
                due("look", x.look(2, instrument + 1, 1), isTaken ? instrument : NOTHING);
            }
        }
    }

    private static void look() {
        OrchestraLibrary x = withEditions();
        x.box(1, 0, 3);
        x.put(1, 2, 1, -1);
        due("edition", x.look(1, 2, 0), 1);
        due("score", x.look(1, 2, 1), -1);
        due("empty", x.look(1, 1, 1), NOTHING);
        due("what 2", x.look(1, 2, 2), NONE);
        x.put(1, 0, 0, 5);
        due("what 2", x.look(1, 0, 2), NONE);
        due("what -1", x.look(1, 1, -1), NONE);
        due("place 3", x.look(1, 3, 0), NONE);
        due("place -1", x.look(1, -1, 0), NONE);
        due("box 3", x.look(3, 0, 0), NONE);
        due("box -1", x.look(-1, 0, 0), NONE);
    }

    private static void likeBox() {
        OrchestraLibrary x = withEditions();
        due("from", x.likeBox(3, 0), NONE);
        due("to", x.likeBox(0, -1), NONE);
        due("no places", x.likeBox(0, 1), 0);
        x.box(0, 2, 3);
        x.put(0, 0, 0, 4);
        x.put(0, 2, 1, 1);
        x.box(1, 0, 8);
        x.put(1, 7, 0, -1);
        due("like", x.likeBox(0, 1), 2);
        due("places", x.look(1, 3, 0), NONE);
        due("thing", x.look(1, 2, 0), 1);
        due("sort", x.put(1, 1, 0, -1), UNLIKE);
        due("a row of its own", x.put(1, 1, 0, 2), 1);
        due("from is unchanged", x.look(0, 1, 0), NOTHING);
        x.put(0, 0, 1, 0);
        due("to is unchanged", x.look(1, 0, 1), 4);
        due("itself", x.likeBox(1, 1), 3);
        due("itself", x.look(1, 1, 1), 2);
        x.box(0, 3, 0);
        due("away", x.likeBox(0, 1), 0);
        due("away", x.look(1, 0, 0), NONE);
    }

    private static void boxesAreNoPartOfTheSnapshot() {
        OrchestraLibrary x = withEditions();
        x.box(0, 0, 2);
        x.save();
        x.put(0, 0, 1, 3);
        due("no change", x.count(9), 2);
        x.undo();
        due("the edition is undone", x.count(0), 1);
        due("undo leaves boxes", x.look(0, 0, 0), 1);
        due("no such edition now", x.put(0, 1, 1, 0), NONE);
        x.restore();
        due("restore leaves boxes", x.look(0, 0, 1), 3);
    }
}
