// The edges of "Things" and of the promises 1 to 8: a new object, put, take, where, whereByAll, count, countByAll,
// claims.
public final class ThingsEdgesTest {
    public static void main(String[] args) {
        newObject();
        stampOfPut();
        putWhatIsInItself();
        takeFrom();
        takeOfNothing();
        nowhereWithoutWord();
        latestPutOrTake();
        whereEachThing();
        counts();
        countsByAll();
        claimsOfNone();
        claimsOfAsManyAsThereCanBe();
        claimsByWhatIsKnown();
        claimsOfTheOwnLatestWord();
        Check.end();
    }

    private static void newObject() {
        Run.of("Fridges that know no word: fridges", "words() = 0; cakes() = 0;",
            Run.each(0, 4, "known(%d) = 0; clock(%d) = 0; guests(%d, 0) = 0; guests(%d, 99) = 0"));
        for (int f = 0; f < 5; f++) {
            Run.of("Fridges that know no word: things", Run.each(0, 39, ("where(#, %d) = NONE; claims(#, %d) = 0;"
                    + "keptFor(#, %d) = NONE; whereByAll(%d) = NONE; keptByAll(%d) = NONE").replace("#", "" + f)));
            Run.of("Fridges that know no word: foods", Run.each(0, 7, ("count(#, %d) = 0; missing(#, %d) = 0;"
                    + "countByAll(%d) = 0").replace("#", "" + f)));
        }
        Run.of("at first 0 of all", Run.each(0, 7, "setNeed(0, %d, 3) = 0; setNeed(5, %d, 3) = 0"));
    }

    private static void stampOfPut() {
        Run.of("Returns the stamp of the word: the first one", Run.each(0, 4, "put(%d, 39) = 1"));
        Run.of("Returns the stamp of the word: each next one", "put(4, 0) = 1; put(4, 1) = 2; put(4, 39) = 3");
        Run.of("Returns the stamp of the word: the last one",
            Run.times(119, "put(4, 0); take(4, 0) = 4;"), "put(4, 1) = 239; put(4, 0) = 240; put(4, 2) = STATE");
    }

    private static void putWhatIsInItself() {
        Run.of("if the fridge sees it in itself", "put(4, 0) = 1; put(4, 0) = STATE; words() = 1; put(3, 0) = 1");
        Run.of("not if it sees it in another one", "put(4, 0) = 1; meet(4, 0); put(0, 0) = 2; where(0, 0) = 0;",
            "put(0, 0) = STATE; put(4, 0) = STATE");
        Run.of("not if it sees it nowhere again", "put(0, 0) = 1; take(0, 0) = 0; put(0, 0) = 3");
        Run.of("as the fridge sees it, not as it is by all words: taken by another one",
            "put(0, 0); meet(0, 1); take(1, 0) = 0; whereByAll(0) = NONE; put(0, 0) = STATE; meet(0, 1);",
            "put(0, 0) = 3");
        Run.of("as the fridge sees it, not as it is by all words: put by another one with an earlier word",
            "put(1, 0) = 1; meet(1, 0); put(0, 0) = 2; put(0, 1); whereByAll(0) = 0; put(1, 0) = STATE;",
            "meet(0, 1); where(1, 0) = 0; put(1, 0) = 4");
        Run.of("its own word is not the latest", "put(0, 0) = 1; put(1, 0) = 1; meet(0, 1); put(1, 0) = STATE;",
            "put(0, 0) = 2");
    }

    private static void takeFrom() {
        Run.of("Returns the fridge in which it sees the thing until then", Run.each(0, 4,
            "put(%d, %d) = 1; take(%d, %d) = %d"));
        Run.of("wherever it is: by whichever fridge", "put(0, 39); meet(0, 4); take(4, 39) = 0; where(4, 39) = NONE;",
            "where(0, 39) = 0; whereByAll(39) = NONE; take(0, 39) = 0");
        Run.of("in which it sees it, not in which it is by all words",
            "put(0, 0); meet(0, 1); put(2, 1); put(2, 0) = 2; whereByAll(0) = 2; take(1, 0) = 0");
        Run.of("for no cake: a KEEP of it does not count", "setNeed(0, 0, 1); put(0, 0); plan(0, 0, 0);",
            "keep(0, 0) = 1;",
            "take(0, 0) = 0; cake(0, 0) = OPEN; lacks(0, 0, 0) = 1");
    }

    private static void takeOfNothing() {
        Run.of("if the fridge sees it nowhere: never put", Run.each(0, 4, "take(%d, 0) = STATE; take(%d, 39) = STATE"));
        Run.of("if the fridge sees it nowhere: taken", "put(0, 0); take(0, 0) = 0; take(0, 0) = STATE; words() = 2");
        Run.of("if the fridge sees it nowhere: not known", "put(0, 0); take(1, 0) = STATE; meet(1, 0) = 1;",
            "take(1, 0) = 0");
        Run.of("if the fridge sees it nowhere: taken by another one",
            "put(0, 0); meet(0, 1); take(1, 0) = 0; meet(0, 1); take(0, 0) = STATE");
        Run.of("if the fridge sees it nowhere: baked",
            "setNeed(0, 0, 1); put(0, 0); plan(0, 0, 0); keep(0, 0); bake(0, 0) = 1; take(0, 0) = STATE");
    }

    private static void nowhereWithoutWord() {
        Run.of("without such a word, it is nowhere: other things' words do not count", "put(0, 1); put(0, 8);",
            "where(0, 0) = NONE; where(0, 16) = NONE; where(0, 2) = NONE; whereByAll(0) = NONE; where(0, 1) = 0");
        Run.of("otherwise it is nowhere: the latest word is a TAKE", "put(0, 0); put(1, 0); meet(0, 1);",
            "take(0, 0) = 1;",
            "where(0, 0) = NONE; where(1, 0) = 1; whereByAll(0) = NONE");
        Run.of("a KEEP is neither a PUT nor a TAKE", "setNeed(0, 0, 1); put(1, 0); meet(0, 1); plan(0, 0, 0);",
            "keep(0, 0) = 1; where(0, 0) = 1; take(0, 0) = 1; where(0, 0) = NONE; keptFor(0, 0) = NONE");
    }

    private static void latestPutOrTake() {
        Run.of("the latest PUT or TAKE: of many", Run.times(10, "put(0, 0); take(0, 0) = 0"), "put(0, 0) = 21;",
            "where(0, 0) = 0; meet(0, 1) = 21; where(1, 0) = 0; take(1, 0) = 0; put(1, 0) = 23; whereByAll(0) = 1");
        Run.of("an earlier PUT that is learnt later does not count", "put(0, 0) = 1; put(1, 1); put(1, 0) = 2;",
            "meet(1, 0); where(1, 0) = 1; where(0, 0) = 1; claims(0, 0) = 1");
        Run.of("an earlier TAKE that is learnt later does not count",
            "put(0, 0); meet(0, 1); take(0, 0) = 0; put(1, 1); put(1, 0) = 3; meet(0, 1); where(0, 0) = 1");
    }

    private static void whereEachThing() {
        for (int f = 0; f < 5; f++) {
            Run.of("Returns the fridge in which it is", Run.each(0, 39, ("put(#, %d); where(#, %d) = #;"
                    + "whereByAll(%d) = #").replace("#", "" + f)), Run.each(0, 39, "where(" + f + ", %d) = " + f));
        }
    }

    private static void counts() {
        Run.of("count: from 0 to all five things of a food", "count(0, 7) = 0; put(0, 7); count(0, 7) = 1; put(0, 15);",
            "count(0, 7) = 2; put(0, 23); count(0, 7) = 3; put(0, 31); count(0, 7) = 4; put(0, 39); count(0, 7) = 5;",
            "count(0, 6) = 0; count(1, 7) = 0; take(0, 7); count(0, 7) = 4; take(0, 39); count(0, 7) = 3");
        Run.of("count: that a fridge sees somewhere, in itself or not", "put(1, 0); put(2, 8); meet(1, 0); meet(1, 2);",
            "count(0, 0) = 1; count(1, 0) = 2; count(2, 0) = 2; take(2, 0); count(2, 0) = 1; count(1, 0) = 2");
        Run.of("count: a thing of two claims is one", "put(1, 0); put(2, 0); meet(1, 2); count(1, 0) = 1;",
            "count(2, 0) = 1");
        Run.of("count: a thing that is kept is somewhere",
            "setNeed(0, 0, 1); put(0, 0); plan(0, 0, 0); keep(0, 0) = 1; count(0, 0) = 1; bake(0, 0); count(0, 0) = 0");
        Run.of("count: all 40 things", Run.each(0, 39, "put(3, %d)"), Run.each(0, 7, "count(3, %d) = 5"));
    }

    private static void countsByAll() {
        Run.of("countByAll: from 0 to all five things of a food, of five fridges", "countByAll(0) = 0;",
            "put(0, 0); put(1, 8); put(2, 16); put(3, 24); countByAll(0) = 4; put(4, 32); countByAll(0) = 5;",
            "countByAll(1) = 0; countByAll(7) = 0;", Run.each(0, 4, "count(%d, 0) = 1"));
        Run.of("gone through in their order: not in that in which they were written",
            "put(4, 0) = 1; meet(4, 3); take(4, 0) = 4; countByAll(0) = 0; put(3, 0) = 2; countByAll(0) = 0;",
            "put(3, 8) = 3; countByAll(0) = 1");
        Run.of("gone through in their order: a TAKE that is written later and stands ahead",
            "put(0, 0) = 1; meet(0, 1); put(1, 1); put(1, 0) = 3; take(0, 0) = 0; countByAll(0) = 1; count(0, 0) = 0");
        Run.of("countByAll: all 40 things", Run.each(0, 39, "put(4, %d)"), Run.each(0, 7, "countByAll(%d) = 5"));
    }

    private static void claimsOfNone() {
        Run.of("claims: none without a word", "put(0, 1); claims(0, 0) = 0; claims(0, 2) = 0; claims(0, 9) = 0");
        Run.of("claims: none where it is", Run.each(0, 4, "put(%d, %d); claims(%d, %d) = 0"));
        Run.of("claims: none that took it itself", "put(4, 0); take(4, 0); claims(4, 0) = 0");
        Run.of("claims: a fridge that only took it does not claim",
            "put(0, 0); meet(0, 1); take(1, 0); claims(1, 0) = 1; meet(0, 1); claims(0, 0) = 1");
    }

    /** The one that wrote the latest word either has the thing or took it, so one of five is always missing. */
    private static void claimsOfAsManyAsThereCanBe() {
        String learnt = Run.each(0, 3, "meet(%d, 4)") + Run.each(0, 3, "meet(%d, 4)");
        Run.of("claims: all but the one that has it", Run.each(0, 4, "put(%d, 39) = 1"), learnt,
            Run.each(0, 4, "claims(%d, 39) = 15; where(%d, 39) = 4"));
        int[] dues = {30, 29, 27, 23, 15};
        for (int f = 0; f < 5; f++) {
            String one = Run.each(0, 4, "put(%d, 0) = 1") + learnt;
            String put = f == 4 ? "take(4, 0) = 4; put(4, 0) = 3;" : Run.with(f, "put(%d, 0) = 2;");
            Run.of("claims: all but the one that put it last", one, put, Run.with(f, "claims(%d, 0) = " + dues[f]));
            Run.of("claims: all but the one that took it", one, Run.with(f, "take(%d, 0) = 4; where(%d, 0) = NONE;"),
                Run.with(f, "claims(%d, 0) = " + dues[f]));
        }
    }

    private static void claimsByWhatIsKnown() {
        Run.of("claims: as a fridge sees it", "put(0, 0); put(3, 0); claims(0, 0) = 0; claims(3, 0) = 0;",
            "claims(1, 0) = 0;",
            "meet(0, 1); claims(1, 0) = 0; meet(3, 2); claims(2, 0) = 0; meet(1, 2); claims(1, 0) = 1;",
            "claims(2, 0) = 1;",
            "claims(0, 0) = 0; claims(3, 0) = 0");
        Run.of("claims: the own TAKE that is not known yet",
            "put(0, 0); meet(0, 1); take(0, 0); put(1, 0) = 2; claims(1, 0) = 1; claims(0, 0) = 0; meet(0, 1);",
            "claims(1, 0) = 0");
    }

    private static void claimsOfTheOwnLatestWord() {
        Run.of("the latest PUT or TAKE of it that this fridge itself wrote is a PUT: after a TAKE",
            "put(0, 0); take(0, 0); put(0, 0) = 3; meet(0, 1); put(1, 0) = 4; claims(1, 0) = 1");
        Run.of("the latest PUT or TAKE of it that this fridge itself wrote is a TAKE: after a PUT",
            "put(0, 0); take(0, 0); meet(0, 1); put(1, 0) = 3; claims(1, 0) = 0");
        Run.of("a TAKE by another fridge is not its own", "put(0, 0); meet(0, 1); take(1, 0) = 0; claims(1, 0) = 1;",
            "put(1, 0) = 3; claims(1, 0) = 1; take(1, 0) = 1; claims(1, 0) = 1");
        Run.of("a TAKE that went with a BAKE is a TAKE of the fridge that baked", "setNeed(0, 0, 1); put(0, 0);",
            "meet(0, 1);",
            "put(1, 0) = 2; claims(1, 0) = 1; plan(1, 0, 0); keep(1, 0) = 1; bake(1, 0) = 1; claims(1, 0) = 1;",
            "meet(0, 1); plan(0, 0, 0); put(0, 0); claims(0, 0) = 0");
    }
}
