// "There are the fridges 0 to 4, the things 0 to 39, ...": for each argument of each method the last value inside its
// bounds and the first one outside, on both sides.
public final class BoundsTest {
    // all fridges know of two things in fridge 2 and of one open cake
    private static final String READY = "put(2, 0); put(2, 39); plan(2, 0, 0) = 0;"
            + "meet(2, 0); meet(2, 1); meet(2, 3); meet(2, 4);";

    public static void main(String[] args) {
        fridges();
        things();
        foods();
        recipes();
        guests();
        days();
        lastFromFirst();
        dislikes();
        needs();
        cakes();
        Check.end();
    }

    private static void fridges() {
        bounds("the fridges 0 to 4", READY, 0, 4, "INDEX", "put(%d, 9)", "take(%d, 0)", "where(%d, 0)", "count(%d, 0)",
            "claims(%d, 0)", "meet(%d, 2)", "meet(2, %d)", "known(%d)", "clock(%d)", "guest(%d, 0, 0, 0, 0)",
            "guests(%d, 0)", "plan(%d, 0, 0)", "keep(%d, 0)", "drop(%d, 0)", "bake(%d, 0)", "cake(%d, 0)",
            "keptFor(%d, 0)", "lacks(%d, 0, 0)", "isUnfit(%d, 0)", "isSpoilt(%d, 0)", "missing(%d, 0)");
    }

    private static void things() {
        bounds("the things 0 to 39", READY, 0, 39, "INDEX", "put(1, %d)", "take(1, %d)", "where(1, %d)",
            "whereByAll(%d)", "claims(1, %d)", "keptFor(1, %d)", "keptByAll(%d)");
    }

    private static void foods() {
        bounds("the foods 0 to 7", READY, 0, 7, "INDEX", "count(1, %d)", "countByAll(%d)", "setNeed(0, %d, 1)",
            "lacks(1, 0, %d)", "missing(1, %d)");
    }

    private static void recipes() {
        bounds("the recipes 0 to 5", READY, 0, 5, "INDEX", "setNeed(%d, 0, 1)", "plan(1, %d, 0)");
    }

    private static void guests() {
        bounds("the guests 0 to 7", READY, 0, 7, "INDEX", "guest(1, %d, 0, 0, 0)");
    }

    private static void days() {
        bounds("the days 0 to 99", READY, 0, 99, "ARGUMENT", "guest(1, 0, %d, 99, 0)", "guest(1, 0, 0, %d, 0)",
            "guest(1, 0, %d, %d, 0)", "guests(1, %d)", "plan(1, 0, %d)");
    }

    private static void lastFromFirst() {
        bounds("last: first to 99", READY, 50, 99, "ARGUMENT", "guest(1, 0, 50, %d, 0)");
        bounds("last: first to 99, of the last day", READY, 99, 99, "ARGUMENT", "guest(1, 0, 99, %d, 0)");
        bounds("last: first to 99, of the first day", READY, 0, 99, "ARGUMENT", "guest(1, 0, 0, %d, 0)");
        bounds("first: 0 to last", READY, 0, 50, "ARGUMENT", "guest(1, 0, %d, 50, 0)");
    }

    private static void dislikes() {
        bounds("dislikes: 0 to 255", READY, 0, 255, "ARGUMENT", "guest(1, 0, 0, 0, %d)");
    }

    private static void needs() {
        bounds("some things of each food, 0 to 3", READY, 0, 3, "ARGUMENT", "setNeed(0, 0, %d)", "setNeed(5, 7, %d)");
    }

    /** There are as many cakes as were planned, by whichever fridge; the fridge 1 knows all of them. */
    private static void cakes() {
        String[] templates = {"keep(1, %d)", "drop(1, %d)", "bake(1, %d)", "cake(1, %d)", "lacks(1, %d, 0)",
            "isUnfit(1, %d)", "isSpoilt(1, %d)"};
        bounds("no cake yet", "put(1, 0);", 0, -1, "INDEX", templates);
        bounds("one cake", "plan(1, 0, 0) = 0;", 0, 0, "INDEX", templates);
        bounds("two cakes", "plan(0, 0, 0) = 0; meet(0, 1); plan(1, 0, 0) = 1;", 0, 1, "INDEX", templates);
        bounds("20 cakes", Run.times(20, "plan(1, 0, 0)"), 0, 19, "INDEX", templates);
        bounds("20 cakes and one that is refused", Run.times(20, "plan(1, 0, 0)") + "plan(1, 0, 0) = STATE;", 0, 19,
            "INDEX", templates);
        bounds("a cake that no fridge but one knows", "plan(4, 0, 0) = 0;", 0, 0, "INDEX", "cake(1, %d)",
            "lacks(1, %d, 0)", "isUnfit(1, %d)", "isSpoilt(1, %d)");
    }

    /** In each template the numbers from least to most are taken, and those outside throw. */
    private static void bounds(String sentence, String ahead, int least, int most, String exception,
            String... templates) {
        for (String template : templates) {
            if (least <= most) {
                Run.of(sentence, ahead, Run.with(least, template));
                Run.of(sentence, ahead, Run.with(most, template));
            }
            for (int outside : new int[] {least - 1, most + 1, Integer.MIN_VALUE, Integer.MAX_VALUE}) {
                Run.of(sentence, ahead, Run.with(outside, template) + " = " + exception);
            }
        }
    }
}
