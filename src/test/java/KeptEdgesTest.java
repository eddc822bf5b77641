// The edges of "KEEP", "spoilt", "Shopping" and of the promises 22 to 24, 26 and 27: keptFor, keptByAll, lacks,
// isSpoilt, missing.
public final class KeptEdgesTest {
    // fridges 0, 1 and 2 see the thing 0 in fridge 2; their clocks are 1, and recipe 0 needs one thing of its food
    private static final String ONE_THING = "setNeed(0, 0, 1); put(2, 0) = 1; meet(2, 0); meet(2, 1);";
    private static final String BOTH_KEEP = "keep(0, 0) = 1; keep(1, 1) = 1; meet(0, 1);";
    // fridges 0 and 1 see the thing 0 kept for the cake 0; their clocks are 3
    private static final String ONE_CAKE = "setNeed(0, 0, 1); put(0, 0); plan(0, 0, 1) = 0; keep(0, 0) = 1;"
        + "meet(0, 1) = 3;";
    private static final String WORD_OF_1 = "guest(1, 7, 99, 99, 0);";

    public static void main(String[] args) {
        keptForNone();
        keptForEachThingAndCake();
        moreGuestsAreAhead();
        guestsAsTheyAreSeen();
        earlierDayIsAhead();
        earlierPlanIsAhead();
        firstOfTheOpenCakes();
        keptByAll();
        lacks();
        lacksNotBelowNothing();
        lacksOnlyIfOpen();
        spoiltByTheWordAhead();
        notSpoiltByAnotherWord();
        spoiltOfManyThings();
        spoiltOfManyCakes();
        spoiltOnlyIfBaked();
        missing();
        missingOfManyCakes();
        missingOfOpenCakes();
        Check.end();
    }

    private static void keptForNone() {
        Run.of("NONE for none: no word, no KEEP", "keptFor(0, 0) = NONE; keptByAll(0) = NONE; setNeed(0, 0, 3);",
            "put(0, 0);",
            "plan(0, 0, 0) = 0; keptFor(0, 0) = NONE; keptByAll(0) = NONE; lacks(0, 0, 0) = 3");
        Run.of("A thing that is nowhere is kept for none", ONE_CAKE, "keptFor(0, 0) = 0; take(0, 0) = 0;",
            "keptFor(0, 0) = NONE; keptByAll(0) = NONE; keptFor(1, 0) = 0; meet(0, 1); keptFor(1, 0) = NONE");
        Run.of("and is kept again where it is somewhere again", ONE_CAKE, "take(0, 0) = 0; put(0, 0) = 5;",
            "keptFor(0, 0) = 0; keptByAll(0) = 0; lacks(0, 0, 0) = 0; meet(0, 1); put(1, 0) = 6; keptFor(1, 0) = 0");
        Run.of("a KEEP of it: not of another thing", ONE_CAKE, "put(0, 8); put(0, 1); keptFor(0, 8) = NONE;",
            "keptFor(0, 1) = NONE; keptFor(0, 0) = 0");
    }

    private static void keptForEachThingAndCake() {
        String needs = Run.each(0, 7, "setNeed(0, %d, 3)") + Run.each(0, 7, "setNeed(1, %d, 2)");
        Run.of("Returns the cake: of all 40 things", needs, Run.each(0, 39, "put(0, %d)"), "plan(0, 0, 0) = 0;",
            "plan(0, 1, 0) = 1; keep(0, 0) = 24; keep(0, 1) = 16;", Run.each(0, 23, "keptFor(0, %d) = 0;"
            + "keptByAll(%d) = 0"),
            Run.each(24, 39, "keptFor(0, %d) = 1; keptByAll(%d) = 1"), "keptFor(1, 0) = NONE; keptFor(1, 39) = NONE");
        Run.of("Returns the cake: the last one there can be", "setNeed(5, 7, 1); put(0, 39);",
            Run.times(19, "plan(0, 0, 0)"),
            "plan(0, 5, 99) = 19; keep(0, 19) = 1; keptFor(0, 39) = 19; keptByAll(39) = 19; keptFor(4, 39) = NONE");
    }

    /** The cake 0 is for day 10, the cake 1 for day 11; fridge 0 tells of guests. */
    private static void moreGuestsAreAhead() {
        String ahead = ONE_THING + "plan(0, 0, 10) = 0; plan(1, 0, 11) = 1;" + BOTH_KEEP;
        Run.of("that with more guests on its day is ahead: 0 and 0", ahead, "keptFor(0, 0) = 0; lacks(0, 0, 0) = 0;",
            "lacks(0, 1, 0) = 1");
        Run.of("that with more guests on its day is ahead: 0 and 1", ahead,
            "guest(0, 0, 11, 11, 0); keptFor(0, 0) = 1; lacks(0, 0, 0) = 1; lacks(0, 1, 0) = 0; keptFor(1, 0) = 0");
        Run.of("that with more guests on its day is ahead: 1 and 1", ahead,
            "guest(0, 0, 11, 11, 0); guest(0, 1, 10, 10, 0); keptFor(0, 0) = 0");
        Run.of("that with more guests on its day is ahead: both days of one guest", ahead,
            "guest(0, 0, 10, 11, 0); keptFor(0, 0) = 0; guest(0, 0, 11, 12, 0); keptFor(0, 0) = 1;",
            "guest(0, 0, 9, 10, 0); keptFor(0, 0) = 0");
        Run.of("that with more guests on its day is ahead: 7 and 8", ahead, Run.each(0, 6, "guest(0, %d, 10, 11, 0)"),
            "keptFor(0, 0) = 0; guest(0, 7, 11, 11, 0); keptFor(0, 0) = 1; guest(0, 7, 10, 11, 0); keptFor(0, 0) = 0");
        Run.of("more guests, not those of greater numbers", ahead, "guest(0, 7, 10, 10, 0); guest(0, 0, 11, 11, 0);",
            "keptFor(0, 0) = 0; guest(0, 1, 11, 11, 0); keptFor(0, 0) = 1");
        Run.of("guests count whatever they dislike", ahead, "guest(0, 0, 11, 11, 255); isUnfit(0, 1) = true;",
            "keptFor(0, 0) = 1");
    }

    private static void guestsAsTheyAreSeen() {
        Run.of("By some words: guests that not all fridges know", ONE_THING, "plan(0, 0, 10) = 0;",
            "plan(1, 0, 11) = 1;", BOTH_KEEP,
            "meet(0, 3); guest(0, 0, 11, 11, 0); keptFor(0, 0) = 1; keptFor(1, 0) = 0; keptFor(3, 0) = 0;",
            "keptByAll(0) = 1;",
            "keptFor(2, 0) = NONE; meet(0, 1); keptFor(1, 0) = 1; keptFor(3, 0) = 0");
        Run.of("the latest word of a guest", ONE_THING, "plan(0, 0, 10) = 0; plan(1, 0, 11) = 1;", BOTH_KEEP,
            "guest(0, 0, 11, 11, 0); keptFor(0, 0) = 1; guest(0, 0, 50, 50, 0); keptFor(0, 0) = 0");
    }

    private static void earlierDayIsAhead() {
        int[][] days = {{0, 1}, {98, 99}, {0, 99}, {9, 10}};
        for (int[] both : days) {
            Run.of("of as many that with the earlier day: the one planned ahead", ONE_THING, "plan(0, 0, " + both[0]
                + ") = 0;",
                "plan(1, 0, " + both[1] + ") = 1;", BOTH_KEEP, "keptFor(0, 0) = 0; keptFor(1, 0) = 0;",
                "keptByAll(0) = 0");
            Run.of("of as many that with the earlier day: the one planned afterwards", ONE_THING, "plan(0, 0, "
                + both[1] + ") = 0;",
                "plan(1, 0, " + both[0] + ") = 1;", BOTH_KEEP, "keptFor(0, 0) = 1; keptFor(1, 0) = 1;",
                "keptByAll(0) = 1");
        }
    }

    private static void earlierPlanIsAhead() {
        Run.of("of one day that whose PLAN is the earlier word: of one stamp, the cake planned first", ONE_THING,
            "plan(0, 0, 5) = 0; plan(1, 0, 5) = 1; guest(0, 7, 99, 99, 0) = 3; keep(0, 0) = 1; keep(1, 1) = 1;",
            "clock(0) = 4; clock(1) = 3; meet(0, 1); keptFor(0, 0) = 0; keptFor(1, 0) = 0; keptByAll(0) = 0");
        Run.of("of one day that whose PLAN is the earlier word: of one stamp, the cake planned afterwards", ONE_THING,
            "plan(1, 0, 5) = 0; plan(0, 0, 5) = 1; guest(0, 7, 99, 99, 0) = 3; keep(1, 0) = 1; keep(0, 1) = 1;",
            "meet(0, 1); keptFor(0, 0) = 1; keptFor(1, 0) = 1; keptByAll(0) = 1");
        Run.of("of one day that whose PLAN is the earlier word: a smaller stamp, whoever kept first", ONE_THING,
            "guest(0, 7, 99, 99, 0) = 2; plan(0, 0, 5) = 0; clock(0) = 3; plan(1, 0, 5) = 1; clock(1) = 2;",
            Run.times(4, WORD_OF_1), "keep(0, 0) = 1; keep(1, 1) = 1; meet(0, 1); keptFor(0, 0) = 1;",
            "keptFor(1, 0) = 1");
        Run.of("of one day that whose PLAN is the earlier word: both of one fridge", ONE_THING,
            "plan(0, 0, 5) = 0; plan(0, 0, 5) = 1; meet(0, 1); keep(0, 1) = 1; put(1, 9); keep(1, 0) = 1; meet(0, 1);",
            "keptFor(0, 0) = 0; keptFor(1, 0) = 0");
        Run.of("the day goes ahead of the PLAN, the guests ahead of the day", ONE_THING,
            "plan(0, 0, 5) = 0; plan(1, 0, 4) = 1;", BOTH_KEEP, "keptFor(0, 0) = 1; guest(0, 0, 5, 5, 0);",
            "keptFor(0, 0) = 0");
    }

    private static void firstOfTheOpenCakes() {
        String ahead = ONE_THING + "plan(0, 0, 5) = 0; plan(1, 0, 6) = 1;" + BOTH_KEEP + "keptFor(0, 0) = 0;"
            + "keptFor(1, 0) = 0;";
        Run.of("of the open cakes: not of a dropped one", ahead, "drop(0, 0) = 1; keptFor(0, 0) = 1; keptByAll(0) = 1;",
            "keptFor(1, 0) = 0; drop(0, 1) = 1; keptFor(0, 0) = NONE; where(0, 0) = 2");
        Run.of("of the open cakes: not of a baked one, and its thing is gone", ahead, "bake(0, 0) = 1;",
            "keptFor(0, 0) = NONE;",
            "lacks(0, 1, 0) = 1; put(0, 0); keptFor(0, 0) = 1; lacks(0, 1, 0) = 0");
        Run.of("of the open cakes: one that is both dropped and baked is not open", ahead, "drop(1, 0) = 1;",
            "bake(0, 0) = 1;",
            "meet(0, 1); put(0, 0); keptFor(0, 0) = 1");
        Run.of("if its PLAN is among them", "setNeed(0, 0, 1); put(0, 0); meet(0, 1); plan(1, 0, 0) = 0;",
            "keep(1, 0) = 1;",
            "keptFor(1, 0) = 0; keptFor(0, 0) = NONE; keptByAll(0) = 0");
    }

    private static void keptByAll() {
        Run.of("keptByAll: by all words that were written, not by those of one fridge", ONE_THING,
            "plan(0, 0, 6) = 0; plan(1, 0, 5) = 1; keep(0, 0) = 1; keep(1, 1) = 1; keptFor(0, 0) = 0;",
            "keptFor(1, 0) = 1;",
            "keptByAll(0) = 1; take(0, 0) = 2; keptByAll(0) = NONE; keptFor(1, 0) = 1; keptFor(2, 0) = NONE");
        Run.of("keptByAll: dropped by a fridge that no other one met", ONE_CAKE, "drop(1, 0) = 1; keptByAll(0) = NONE;",
            "keptFor(0, 0) = 0; where(1, 0) = 0");
    }

    private static void lacks() {
        Run.of("what its recipe needs, less the things of this food that are kept for it: 3 to 0",
            "plan(0, 0, 0) = 0; lacks(0, 0, 0) = 0; setNeed(0, 0, 3); lacks(0, 0, 0) = 3; put(0, 0);",
            "lacks(0, 0, 0) = 3;",
            "keep(0, 0) = 1; lacks(0, 0, 0) = 2; put(0, 8); keep(0, 0) = 1; lacks(0, 0, 0) = 1; put(0, 16);",
            "keep(0, 0) = 1;",
            "lacks(0, 0, 0) = 0; lacks(0, 0, 1) = 0; lacks(0, 0, 7) = 0");
        Run.of("of this food: each one for itself", Run.each(0, 3, "setNeed(0, %d, %d)"), "setNeed(0, 7, 2);",
            "plan(0, 0, 0) = 0;", Run.each(0, 3, "lacks(0, 0, %d) = %d"), "lacks(0, 0, 7) = 2; lacks(0, 0, 4) = 0;",
            "put(0, 3);",
            "put(0, 39); keep(0, 0) = 2; lacks(0, 0, 3) = 2; lacks(0, 0, 7) = 1; lacks(0, 0, 2) = 2;",
            "lacks(0, 0, 1) = 1");
        Run.of("kept for it: not for another cake", "setNeed(0, 0, 1); put(0, 0); plan(0, 0, 0) = 0;",
            "plan(0, 0, 0) = 1;",
            "keep(0, 0) = 1; lacks(0, 0, 0) = 0; lacks(0, 1, 0) = 1");
        Run.of("as a fridge sees it", ONE_CAKE, "take(0, 0) = 0; lacks(0, 0, 0) = 1; lacks(1, 0, 0) = 0; meet(0, 1);",
            "lacks(1, 0, 0) = 1");
    }

    private static void lacksNotBelowNothing() {
        Run.of("but not below 0: as many, and more than it needs", "setNeed(0, 0, 3); put(0, 0); put(0, 8);",
            "put(0, 16);",
            "plan(0, 0, 0) = 0; keep(0, 0) = 3; lacks(0, 0, 0) = 0; setNeed(0, 0, 2); lacks(0, 0, 0) = 0;",
            "setNeed(0, 0, 0);",
            "lacks(0, 0, 0) = 0; keptFor(0, 0) = 0; keptFor(0, 16) = 0; take(0, 0) = 0; setNeed(0, 0, 3);",
            "lacks(0, 0, 0) = 1");
        Run.of("Things that are kept for it beyond that stay so: as two fridges kept them", "setNeed(0, 0, 3);",
            "plan(0, 0, 0) = 0;",
            "meet(0, 1); put(0, 0); put(0, 8); put(0, 16); put(1, 24); put(1, 32); keep(0, 0) = 3; keep(1, 0) = 2;",
            "meet(0, 1);",
            "lacks(0, 0, 0) = 0; lacks(1, 0, 0) = 0; keptFor(0, 32) = 0; keptFor(1, 0) = 0; take(0, 0); take(0, 8);",
            "lacks(0, 0, 0) = 0;",
            "take(0, 16); lacks(0, 0, 0) = 1");
    }

    private static void lacksOnlyIfOpen() {
        Run.of("0 if the fridge does not see the cake open", "setNeed(0, 0, 3); plan(0, 0, 0) = 0; lacks(0, 0, 0) = 3;",
            Run.each(1, 4, "lacks(%d, 0, 0) = 0"), "meet(0, 1); lacks(1, 0, 0) = 3; drop(1, 0) = 0;",
            "lacks(1, 0, 0) = 0;",
            "lacks(0, 0, 0) = 3; setNeed(0, 0, 0); bake(0, 0) = 0; setNeed(0, 0, 2); lacks(0, 0, 0) = 0;",
            "lacks(1, 0, 0) = 0");
    }

    private static void spoiltByTheWordAhead() {
        Run.of("the word ahead is a TAKE: 1 earlier", ONE_CAKE, "take(0, 0) = 0; clock(0) = 4;", WORD_OF_1,
            "bake(1, 0) = 1;",
            "clock(1) = 6; isSpoilt(1, 0) = false; isSpoilt(0, 0) = false; meet(0, 1); isSpoilt(1, 0) = true;",
            "isSpoilt(0, 0) = true");
        Run.of("the word ahead is a TAKE: of one stamp, by a smaller fridge", ONE_CAKE, "take(0, 0) = 0;",
            "bake(1, 0) = 1;",
            "clock(1) = 5; meet(0, 1); isSpoilt(0, 0) = true; isSpoilt(1, 0) = true");
        Run.of("the word after it is a TAKE: of one stamp, by a greater fridge", ONE_CAKE, "take(1, 0) = 0;",
            "bake(0, 0) = 1;",
            "meet(0, 1); isSpoilt(0, 0) = false; isSpoilt(1, 0) = false");
        Run.of("the word after it is a TAKE: 1 later", ONE_CAKE, WORD_OF_1, "bake(0, 0) = 1; take(1, 0) = 0;",
            "clock(1) = 5;",
            "meet(0, 1); isSpoilt(0, 0) = false");
        Run.of("the word ahead is a TAKE that went with a BAKE of it", ONE_CAKE, "bake(0, 0) = 1; bake(1, 0) = 1;",
            "isSpoilt(0, 0) = false;",
            "isSpoilt(1, 0) = false; meet(0, 1); isSpoilt(0, 0) = true; isSpoilt(1, 0) = true; isSpoilt(2, 0) = false");
        Run.of("the word ahead is a TAKE, and a later PUT mends nothing", ONE_CAKE, "take(0, 0) = 0; bake(1, 0) = 1;",
            "meet(0, 1);",
            "put(0, 0); put(1, 0); isSpoilt(0, 0) = true; isSpoilt(1, 0) = true");
        Run.of("the word ahead is a TAKE that was written afterwards", ONE_CAKE, WORD_OF_1, "bake(1, 0) = 1;",
            "meet(1, 2);",
            "isSpoilt(2, 0) = false; take(0, 0) = 0; meet(0, 2); isSpoilt(2, 0) = true; isSpoilt(1, 0) = false;",
            "isSpoilt(0, 0) = true");
    }

    private static void notSpoiltByAnotherWord() {
        Run.of("the word ahead is a PUT: after a TAKE", ONE_CAKE, "take(0, 0) = 0; put(0, 0) = 5;", WORD_OF_1,
            WORD_OF_1,
            "bake(1, 0) = 1; clock(1) = 7; meet(0, 1); isSpoilt(1, 0) = false");
        Run.of("the word ahead is a PUT: of one stamp, by a smaller fridge", ONE_CAKE, "take(0, 0) = 0;",
            "put(0, 0) = 5;", WORD_OF_1,
            "bake(1, 0) = 1; clock(1) = 6; meet(0, 1); isSpoilt(1, 0) = false");
        Run.of("the PUT is the word after it: of one stamp, by a greater fridge", "setNeed(0, 0, 1); put(1, 0);",
            "plan(1, 0, 1) = 0;",
            "keep(1, 0) = 1; meet(0, 1); take(1, 0) = 1; put(1, 0) = 5;", "guest(0, 7, 99, 99, 0) = 4;",
            "bake(0, 0) = 1; clock(0) = 6;",
            "meet(0, 1); isSpoilt(0, 0) = true");
        Run.of("of those of its thing: a TAKE of another thing", ONE_CAKE, "put(0, 8); take(0, 8) = 0; meet(0, 1);",
            "bake(1, 0) = 1;",
            "meet(0, 1); isSpoilt(0, 0) = false");
        Run.of("a TAKE for no cake spoils none", ONE_CAKE, "take(0, 0) = 0; take(1, 0) = 0; meet(0, 1);",
            "isSpoilt(0, 0) = false;",
            "setNeed(0, 0, 0); bake(0, 0) = 0; isSpoilt(0, 0) = false");
        Run.of("a cake of nothing", "plan(0, 0, 0) = 0; bake(0, 0) = 0; isSpoilt(0, 0) = false");
    }

    private static void spoiltOfManyThings() {
        String many = Run.each(0, 7, "setNeed(0, %d, 3)") + "plan(0, 0, 0) = 0; meet(0, 1) = 1;"
                + Run.each(0, 23, "put(0, %d)") + Run.each(24, 39, "put(1, %d)")
                + "keep(0, 0) = 24; keep(1, 0) = 16; meet(0, 1) = 80;";
        for (int thing : new int[] {0, 23, 24, 39}) {
            Run.of("for one of the TAKE words", many, Run.with(thing, "take(0, %d);"), WORD_OF_1, "bake(1, 0) = 40;",
                "isSpoilt(1, 0) = false; meet(0, 1); isSpoilt(1, 0) = true");
        }
        Run.of("for none of the TAKE words", many, "bake(1, 0) = 40; meet(0, 1); isSpoilt(1, 0) = false;",
            "isSpoilt(0, 0) = false");
    }

    private static void spoiltOfManyCakes() {
        Run.of("the first and the last of 20 cakes", "setNeed(1, 0, 1); put(0, 0); put(0, 8); plan(0, 1, 0) = 0;",
            Run.times(18, "plan(0, 0, 0)"), "plan(0, 1, 0) = 19; keep(0, 0) = 1; keep(0, 19) = 1;",
            Run.each(1, 18, "bake(0, %d) = 0"),
            "meet(0, 1); take(0, 0) = 0; take(0, 8) = 0; bake(1, 0) = 1; bake(1, 19) = 1; isSpoilt(1, 0) = false;",
            "meet(0, 1);",
            "isSpoilt(0, 0) = true; isSpoilt(0, 19) = true;", Run.each(1, 18, "isSpoilt(0, %d) = false"));
        Run.of("two cakes of one thing: that with the later TAKE", ONE_THING, "plan(0, 0, 1) = 0; plan(1, 0, 1) = 1;",
            "keep(0, 0) = 1;",
            "keep(1, 1) = 1; bake(0, 0) = 1; bake(1, 1) = 1; meet(0, 1); isSpoilt(0, 0) = false;",
            "isSpoilt(0, 1) = true;",
            "isSpoilt(1, 0) = false; isSpoilt(1, 1) = true");
    }

    private static void spoiltOnlyIfBaked() {
        Run.of("false if it does not see it baked: open, though its thing is taken twice", ONE_CAKE, "take(0, 0);",
            "take(1, 0); meet(0, 1);",
            "cake(0, 0) = OPEN; isSpoilt(0, 0) = false; drop(0, 0); cake(0, 0) = DROPPED; isSpoilt(0, 0) = false;",
            "isSpoilt(1, 0) = false");
        Run.of("false if it does not see it baked: unknown", ONE_CAKE, "take(0, 0); bake(1, 0); meet(0, 1);",
            "isSpoilt(0, 0) = true;",
            Run.each(2, 4, "isSpoilt(%d, 0) = false"));
        Run.of("both dropped and baked, and spoilt", ONE_CAKE, "take(0, 0); drop(0, 0) = 0; bake(1, 0) = 1;",
            "meet(0, 1);",
            "cake(0, 0) = BAKED; isSpoilt(0, 0) = true");
    }

    private static void missing() {
        Run.of("less all things of this food that are somewhere, but not below 0", "missing(0, 0) = 0;",
            "setNeed(0, 0, 3);",
            "missing(0, 0) = 0; plan(0, 0, 0) = 0; missing(0, 0) = 3; put(0, 0); missing(0, 0) = 2; put(0, 8);",
            "missing(0, 0) = 1;",
            "put(0, 16); missing(0, 0) = 0; put(0, 24); missing(0, 0) = 0; put(0, 32); missing(0, 0) = 0; take(0, 0);",
            "take(0, 8);",
            "missing(0, 0) = 0; take(0, 16); missing(0, 0) = 1");
        Run.of("of a food: each one for itself", Run.each(0, 3, "setNeed(0, %d, %d)"), "setNeed(0, 7, 3);",
            "plan(0, 0, 0) = 0;",
            Run.each(0, 3, "missing(0, %d) = %d"), "missing(0, 4) = 0; missing(0, 7) = 3; put(0, 39); put(0, 38);",
            "missing(0, 7) = 2");
        Run.of("all things that are somewhere: kept for one cake or for none", "setNeed(0, 0, 2); put(0, 0);",
            "put(0, 8); put(0, 16);",
            "plan(0, 0, 0) = 0; plan(0, 0, 0) = 1; missing(0, 0) = 1; keep(0, 0) = 2; missing(0, 0) = 1;",
            "keep(0, 1) = 1; missing(0, 0) = 1");
        Run.of("all things that are somewhere: kept beyond the need", "setNeed(0, 0, 3); put(0, 0); put(0, 8);",
            "put(0, 16);",
            "setNeed(1, 0, 2); plan(0, 0, 0) = 0; plan(0, 1, 0) = 1; keep(0, 0) = 3; setNeed(0, 0, 1);",
            "missing(0, 0) = 0; lacks(0, 1, 0) = 2;",
            "setNeed(1, 0, 3); missing(0, 0) = 1");
    }

    private static void missingOfManyCakes() {
        Run.of("what all open cakes need of it: as much as there can be", Run.each(0, 7, "setNeed(0, %d, 3)"),
            Run.times(19, "plan(0, 0, 0)"), "missing(0, 0) = 57; plan(0, 0, 99) = 19;",
            Run.each(0, 7, "missing(0, %d) = 60"),
            Run.each(0, 39, "put(0, %d)"), Run.each(0, 7, "missing(0, %d) = 55; missing(1, %d) = 0"));
        Run.of("what all open cakes need of it: the first and the last one", "setNeed(0, 0, 1); setNeed(2, 0, 2);",
            "plan(0, 0, 0) = 0;",
            Run.times(18, "plan(0, 1, 0)"), "plan(0, 2, 0) = 19; missing(0, 0) = 3; drop(0, 0); missing(0, 0) = 2;",
            "drop(0, 19); missing(0, 0) = 0");
    }

    private static void missingOfOpenCakes() {
        Run.of("what a fridge sees surely missing", "setNeed(0, 0, 3); plan(0, 0, 0) = 0; plan(1, 0, 0) = 1;",
            "missing(0, 0) = 3;",
            "missing(1, 0) = 3; missing(2, 0) = 0; put(2, 0); meet(0, 1); missing(0, 0) = 6; missing(1, 0) = 6;",
            "meet(1, 2); missing(1, 0) = 5;",
            "missing(2, 0) = 5; missing(0, 0) = 6; drop(0, 0) = 0; missing(0, 0) = 3; missing(1, 0) = 5");
        Run.of("a baked cake needs nothing, and its things are gone", "setNeed(0, 0, 1); put(0, 0);",
            "plan(0, 0, 0) = 0; plan(0, 0, 0) = 1;",
            "keep(0, 0) = 1; missing(0, 0) = 1; bake(0, 0) = 1; missing(0, 0) = 1; put(0, 0); missing(0, 0) = 0");
    }
}
