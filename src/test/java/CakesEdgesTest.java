// The edges of "Cakes" and of the promises 16 to 21: plan, keep, drop, bake, cakes, cake.
public final class CakesEdgesTest {
    private static final String NEED_ALL = Run.each(0, 7, "setNeed(0, %d, 3)");
    // a word of guest 7, who comes on day 99 and dislikes nothing
    private static final String WORD = "guest(%d, 7, 99, 99, 0)";
    // the fridges 0 and 1 know one cake, for which all 40 things are kept; 81 words
    private static final String KEPT_ALL = NEED_ALL + "plan(0, 0, 0) = 0; meet(0, 1) = 1;"
            + Run.each(0, 23, "put(0, %d)") + Run.each(24, 39, "put(1, %d)")
            + "keep(0, 0) = 24; keep(1, 0) = 16; meet(0, 1) = 80;";
    // what makes the fridge 0 see the cake 0 in each state but open; the cake needs nothing
    private static final String[] NOT_OPEN = {"plan(1, 0, 0) = 0;", "plan(0, 0, 0) = 0; drop(0, 0) = 0;",
        "plan(0, 0, 0) = 0; bake(0, 0) = 0;", "plan(0, 0, 0) = 0; meet(0, 1); bake(1, 0) = 0; drop(0, 0) = 0;"
        + "meet(0, 1);"};

    public static void main(String[] args) {
        numbersOfCakes();
        noMoreThanTwentyCakes();
        planOfDislikedFood();
        planOfDislikedDay();
        planByEachGuest();
        planAtTheLastWord();
        keepAsManyAsItLacks();
        keepTooFew();
        keepTheLowest();
        keepOfEachFood();
        keepWhatIsSomewhere();
        keepWhatIsKeptForNone();
        keepAsManyAsThereCanBe();
        keepAtTheLastWord();
        notOpen();
        drops();
        dropAtTheLastWord();
        bakes();
        bakeLacksSomething();
        bakeByRisingNumbers();
        bakeAsManyAsThereCanBe();
        bakeAtTheLastWord();
        states();
        Check.end();
    }

    private static String fill(int fridge, int times) {
        return Run.times(times, Run.with(fridge, WORD));
    }

    private static void numbersOfCakes() {
        Run.of("Cakes are numbered from 0 in the order in which the calls plan them", "cakes() = 0;",
            "plan(4, 5, 99) = 0; cakes() = 1; plan(0, 0, 0) = 1; cakes() = 2; plan(4, 5, 99) = 2; plan(2, 3, 50) = 3;",
            "cakes() = 4; cake(4, 1) = UNKNOWN; cake(4, 2) = OPEN; cake(0, 1) = OPEN; cake(2, 3) = OPEN");
        Run.of("what is dropped or baked keeps its number", "plan(0, 0, 0) = 0; drop(0, 0) = 0; cakes() = 1;",
            "plan(0, 0, 0) = 1; bake(0, 1) = 0; cakes() = 2; plan(0, 0, 0) = 2; cakes() = 3");
    }

    private static void noMoreThanTwentyCakes() {
        String twenty = Run.each(0, 4, "plan(%d, 5, 99) = %d") + "plan(0, 0, 0) = 5;"
                + Run.times(13, "plan(1, 1, 1)") + "cakes() = 19; plan(4, 2, 3) = 19;";
        Run.of("there can be 20", twenty, "cakes() = 20; words() = 20; cake(4, 19) = OPEN;",
            Run.each(0, 4, "plan(%d, 0, 0) = STATE"), "cakes() = 20; words() = 20; cake(4, 20) = INDEX");
        Run.of("there can be 20: dropped and baked ones too", twenty, "drop(4, 19) = 0; plan(4, 0, 0) = STATE;",
            "bake(0, 0) = 0; plan(0, 0, 0) = STATE; cakes() = 20");
    }

    private static void planOfDislikedFood() {
        Run.of("a food of which the recipe needs some: 0 or 1", "guest(0, 0, 5, 5, 1); plan(0, 0, 5) = 0;",
            "setNeed(0, 0, 1); plan(0, 0, 5) = STATE; plan(0, 1, 5) = 1; setNeed(0, 0, 3); plan(0, 0, 5) = STATE;",
            "setNeed(0, 0, 0); setNeed(0, 1, 3); plan(0, 0, 5) = 2");
        for (int food = 0; food < 8; food++) {
            Run.of("dislikes a food of which the recipe needs some", Run.with(food, "setNeed(0, %d, 1);"),
                "guest(0, 0, 5, 5, " + (1 << food) + "); plan(0, 0, 5) = STATE; cakes() = 0; words() = 1;",
                "guest(0, 0, 5, 5, " + (255 - (1 << food)) + "); plan(0, 0, 5) = 0");
        }
    }

    private static void planOfDislikedDay() {
        Run.of("a guest who the fridge sees come on this day", "setNeed(0, 0, 1); guest(0, 0, 50, 60, 1) = 1;",
            "plan(0, 0, 49) = 0; plan(0, 0, 50) = STATE; plan(0, 0, 60) = STATE; plan(0, 0, 61) = 1; clock(0) = 3");
        Run.of("the first and the last day of all", "setNeed(0, 0, 1); guest(0, 0, 0, 98, 1); plan(0, 0, 0) = STATE;",
            "plan(0, 0, 98) = STATE; plan(0, 0, 99) = 0; guest(0, 0, 1, 99, 1); plan(0, 0, 99) = STATE;",
            "plan(0, 0, 0) = 1");
        Run.of("who the fridge sees: another one's guest", "setNeed(0, 0, 1); guest(0, 0, 0, 99, 1);",
            "plan(1, 0, 5) = 0;",
            "meet(0, 1); plan(1, 0, 5) = STATE; plan(2, 0, 5) = 1");
        Run.of("the latest word of the guest", "setNeed(0, 0, 1); guest(0, 0, 5, 5, 1); plan(0, 0, 5) = STATE;",
            "guest(0, 0, 5, 5, 0); plan(0, 0, 5) = 0; guest(0, 0, 5, 5, 1); plan(0, 0, 5) = STATE;",
            "guest(0, 0, 6, 6, 1); plan(0, 0, 5) = 1");
    }

    private static void planByEachGuest() {
        for (int guest = 0; guest < 8; guest++) {
            Run.of("a guest dislikes it: one of eight", "setNeed(5, 7, 1);", Run.each(0, 7, "guest(0, %d, 5, 5, 127)"),
                "plan(0, 5, 5) = 0;", Run.with(guest, "guest(0, %d, 5, 5, 128); plan(0, 5, 5) = STATE"));
        }
    }

    private static void planAtTheLastWord() {
        Run.of("plan: the 240th word, and one more", fill(0, 239), "plan(0, 0, 0) = 0; words() = 240;",
            "plan(0, 0, 0) = STATE; cakes() = 1; plan(1, 0, 0) = STATE; cake(0, 1) = INDEX");
    }

    private static void keepAsManyAsItLacks() {
        Run.of("as many as the cake lacks of it", "put(0, 0); put(0, 8); put(0, 16); put(0, 24); plan(0, 0, 0) = 0;",
            "keep(0, 0) = 0; clock(0) = 5; setNeed(0, 0, 1); keep(0, 0) = 1; keptFor(0, 0) = 0; keptFor(0, 8) = NONE;",
            "keep(0, 0) = 0; setNeed(0, 0, 3); lacks(0, 0, 0) = 2; keep(0, 0) = 2; keptFor(0, 16) = 0;",
            "keptFor(0, 24) = NONE; keep(0, 0) = 0; clock(0) = 8; words() = 8");
        Run.of("what is kept beyond the need is no lack of another food", "setNeed(0, 0, 3); put(0, 0); put(0, 8);",
            "put(0, 16); put(0, 1); put(0, 9); plan(0, 0, 0) = 0; keep(0, 0) = 3; setNeed(0, 0, 1); keep(0, 0) = 0;",
            "setNeed(0, 1, 2); keep(0, 0) = 2; lacks(0, 0, 0) = 0; lacks(0, 0, 1) = 0; keptFor(0, 16) = 0");
        Run.of("a thing that is gone is lacking again", "setNeed(0, 0, 1); put(0, 0); put(0, 32); plan(0, 0, 0) = 0;",
            "keep(0, 0) = 1; take(0, 0) = 0; keep(0, 0) = 1; keptFor(0, 32) = 0; take(0, 32) = 0; keep(0, 0) = 0");
    }

    private static void keepTooFew() {
        Run.of("If there are too few, all that there are: none", "setNeed(0, 0, 3); plan(0, 0, 0) = 0; keep(0, 0) = 0;",
            "words() = 1; clock(0) = 1; put(0, 1); keep(0, 0) = 0; words() = 2");
        Run.of("If there are too few, all that there are: one and two of three", "setNeed(0, 0, 3); plan(0, 0, 0) = 0;",
            "put(0, 0); keep(0, 0) = 1; put(0, 8); keep(0, 0) = 1; lacks(0, 0, 0) = 1; put(0, 16); put(0, 24);",
            "keep(0, 0) = 1; keptFor(0, 24) = NONE");
        Run.of("If there are too few of one food, another one has its own", "setNeed(0, 0, 3); setNeed(0, 7, 2);",
            "put(0, 0); put(0, 8); put(0, 7); put(0, 15); put(0, 23); plan(0, 0, 0) = 0; keep(0, 0) = 4;",
            "lacks(0, 0, 0) = 1; lacks(0, 0, 7) = 0; keptFor(0, 23) = NONE; words() = 10");
    }

    private static void keepTheLowest() {
        Run.of("of the lowest things", "setNeed(0, 0, 3); put(0, 32); put(0, 24); put(0, 16); put(0, 8); put(0, 0);",
            "plan(0, 0, 0) = 0; keep(0, 0) = 3; keptFor(0, 0) = 0; keptFor(0, 8) = 0; keptFor(0, 16) = 0;",
            "keptFor(0, 24) = NONE; keptFor(0, 32) = NONE");
        Run.of("of the lowest things: the first and the last one", "setNeed(0, 7, 1); put(0, 39); plan(0, 0, 0) = 0;",
            "keep(0, 0) = 1; keptFor(0, 39) = 0; put(0, 7); keep(0, 0) = 0; setNeed(0, 7, 2); keep(0, 0) = 1;",
            "keptFor(0, 7) = 0");
    }

    private static void keepOfEachFood() {
        for (int food = 0; food < 8; food++) {
            Run.of("food by food", Run.with(food, "setNeed(0, %d, 1);"), Run.each(0, 7, "put(0, %d)"),
                "plan(0, 0, 0) = 0; keep(0, 0) = 1;", Run.each(0, 7, "keptFor(0, %d) = NONE")
                .replace(food + ") = NONE", food + ") = 0"), "words() = 10");
        }
    }

    private static void keepWhatIsSomewhere() {
        Run.of("things that are somewhere: in whichever fridge", "setNeed(0, 0, 3); put(4, 0); put(3, 8); put(0, 16);",
            "plan(0, 0, 0) = 0; meet(4, 3); meet(3, 0); keep(0, 0) = 3; keptFor(0, 0) = 0; keptFor(0, 16) = 0");
        Run.of("as a fridge sees them: not what it does not know", "setNeed(0, 0, 2); put(1, 0); put(0, 8);",
            "plan(0, 0, 0) = 0; keep(0, 0) = 1; keptFor(0, 8) = 0; keptByAll(0) = NONE; meet(0, 1); keep(0, 0) = 1;",
            "keptFor(0, 0) = 0; keptFor(1, 0) = NONE");
        Run.of("not what is nowhere", "setNeed(0, 0, 2); put(0, 0); put(0, 8); take(0, 0); plan(0, 0, 0) = 0;",
            "keep(0, 0) = 1; keptFor(0, 0) = NONE; keptFor(0, 8) = 0; lacks(0, 0, 0) = 1");
        Run.of("what is gone by a word that it does not know", "setNeed(0, 0, 1); put(0, 0); plan(0, 0, 0) = 0;",
            "meet(0, 1);",
            "take(1, 0) = 0; keep(0, 0) = 1; keptFor(0, 0) = 0; keptByAll(0) = NONE; meet(0, 1); keptFor(0, 0) = NONE");
    }

    private static void keepWhatIsKeptForNone() {
        String two = "setNeed(0, 0, 1); put(0, 0); put(0, 8); plan(0, 0, 9) = 0; plan(0, 0, 1) = 1; keep(0, 0) = 1;";
        Run.of("kept for none: not what another open cake has", two, "keep(0, 1) = 1; keptFor(0, 0) = 0;",
            "keptFor(0, 8) = 1");
        Run.of("kept for none: a cake that is ahead takes nothing from another one", two, "take(0, 8); keep(0, 1) = 0;",
            "guest(0, 0, 1, 1, 0); keep(0, 1) = 0; keptFor(0, 0) = 0; lacks(0, 1, 0) = 1");
        Run.of("kept for none: what a dropped cake had", two, "drop(0, 0) = 1; keep(0, 1) = 1; keptFor(0, 0) = 1");
        Run.of("kept for none: not what is kept beyond the need", "setNeed(0, 0, 3); put(0, 0); put(0, 8); put(0, 16);",
            "setNeed(1, 0, 1); plan(0, 0, 9) = 0; plan(0, 1, 1) = 1; keep(0, 0) = 3; setNeed(0, 0, 0); keep(0, 1) = 0;",
            "put(0, 24); keep(0, 1) = 1; keptFor(0, 24) = 1; keptFor(0, 16) = 0");
        Run.of("kept for none as the fridge sees it: a KEEP that it does not know", "setNeed(0, 0, 1); put(0, 0);",
            "plan(0, 0, 9) = 0; plan(0, 0, 9) = 1; meet(0, 1); keep(0, 1) = 1; keep(1, 0) = 1; keptFor(1, 0) = 0;",
            "keptFor(0, 0) = 1; meet(0, 1); keptFor(0, 0) = 0; keep(0, 1) = 0");
        Run.of("kept for none as the fridge sees it: a DROP that it does not know", two, "take(0, 8); meet(0, 1);",
            "drop(1, 0) = 1; keep(0, 1) = 0; keep(1, 1) = 1; keptFor(0, 0) = 0; keptFor(1, 0) = 1");
    }

    private static void keepAsManyAsThereCanBe() {
        Run.of("a word for each: three things of each food", NEED_ALL, Run.each(0, 39, "put(0, %d)"),
            "plan(0, 0, 0) = 0; keep(0, 0) = 24; words() = 65; clock(0) = 65;", Run.each(0, 23, "keptFor(0, %d) = 0"),
            Run.each(24, 39, "keptFor(0, %d) = NONE"), Run.each(0, 7, "lacks(0, 0, %d) = 0"), "keep(0, 0) = 0;",
            "words() = 65");
    }

    private static void keepAtTheLastWord() {
        String many = NEED_ALL + Run.each(0, 39, "put(0, %d)") + "plan(0, 0, 0) = 0;";
        Run.of("keep: up to 240 words", many, fill(1, 175), "words() = 216; keep(0, 0) = 24; words() = 240;",
            "keep(0, 0) = 0");
        Run.of("keep: more than 240 words, none is written", many, fill(1, 176), "words() = 217; keep(0, 0) = STATE;",
            "words() = 217; keptFor(0, 0) = NONE; clock(0) = 41; setNeed(0, 7, 2); keep(0, 0) = 23; words() = 240");
        String one = "setNeed(0, 0, 3); put(0, 0); plan(0, 0, 0) = 0;";
        Run.of("keep: would write as many words as there are things, not as it lacks", one, fill(1, 237),
            "words() = 239; keep(0, 0) = 1; words() = 240; lacks(0, 0, 0) = 2; keep(0, 0) = 0");
        Run.of("keep: one word with 240 of them", one, fill(1, 238), "words() = 240; keep(0, 0) = STATE;",
            "lacks(0, 0, 0) = 3");
        Run.of("keep: no word with 240 of them", "plan(0, 0, 0) = 0;", fill(1, 239), "keep(0, 0) = 0; words() = 240");
    }

    private static void notOpen() {
        for (String ahead : NOT_OPEN) {
            Run.of("if the fridge does not see the cake open", ahead, "cakes() = 1; keep(0, 0) = STATE;",
                "drop(0, 0) = STATE; bake(0, 0) = STATE; cakes() = 1");
        }
        Run.of("does not see the cake open, which another one sees open", "plan(1, 0, 0) = 0; keep(0, 0) = STATE;",
            "keep(1, 0) = 0; meet(0, 1); keep(0, 0) = 0; drop(1, 0) = 0; keep(1, 0) = STATE; keep(0, 0) = 0;",
            "bake(0, 0) = 0; drop(0, 0) = STATE; meet(0, 1); bake(1, 0) = STATE");
    }

    private static void drops() {
        Run.of("how many things are kept for it until then: none", "plan(0, 0, 0) = 0; put(0, 0); drop(0, 0) = 0;",
            "cake(0, 0) = DROPPED; clock(0) = 3; words() = 3");
        Run.of("how many things are kept for it until then: all 40", KEPT_ALL, "drop(0, 0) = 40; words() = 82;",
            Run.each(0, 39, "keptFor(0, %d) = NONE; where(0, %d)"), "drop(1, 0) = 40; count(1, 0) = 5");
        Run.of("as the fridge sees it", "setNeed(0, 0, 2); put(0, 0); put(0, 8); plan(0, 0, 0) = 0; meet(0, 1);",
            "keep(0, 0) = 2; drop(1, 0) = 0; take(0, 8); drop(0, 0) = 1");
        Run.of("kept for it, not for another one", "setNeed(0, 0, 1); put(0, 0); put(0, 8); plan(0, 0, 0) = 0;",
            "plan(0, 0, 0) = 1; keep(0, 0) = 1; keep(0, 1) = 1; drop(0, 0) = 1; keptFor(0, 8) = 1; drop(0, 1) = 1");
    }

    private static void dropAtTheLastWord() {
        Run.of("drop: the 240th word", "plan(0, 0, 0) = 0;", fill(1, 238), "drop(0, 0) = 0; words() = 240");
        Run.of("drop: one word with 240 of them", "plan(0, 0, 0) = 0;", fill(1, 239), "drop(0, 0) = STATE;",
            "cake(0, 0) = OPEN; clock(0) = 1");
    }

    private static void bakes() {
        Run.of("how many things are taken: none", "plan(0, 0, 0) = 0; put(0, 0); bake(0, 0) = 0; where(0, 0) = 0;",
            "cake(0, 0) = BAKED; clock(0) = 3; words() = 3");
        Run.of("what is kept for it, not what is kept for another one or for none", "setNeed(0, 0, 1); put(0, 0);",
            "put(0, 8);",
            "put(0, 16); plan(0, 0, 0) = 0; plan(0, 0, 0) = 1; keep(0, 0) = 1; keep(0, 1) = 1; bake(0, 0) = 1;",
            "where(0, 0) = NONE; keptFor(0, 8) = 1; where(0, 16) = 0; keptFor(0, 16) = NONE; bake(0, 1) = 1;",
            "count(0, 0) = 1");
        Run.of("beyond the need too", "setNeed(0, 0, 3); put(0, 0); put(0, 8); put(0, 16); plan(0, 0, 0) = 0;",
            "keep(0, 0) = 3; setNeed(0, 0, 0); lacks(0, 0, 0) = 0; bake(0, 0) = 3; count(0, 0) = 0; clock(0) = 11");
        Run.of("things in other fridges", "setNeed(0, 0, 2); put(3, 0); put(4, 8); plan(0, 0, 0) = 0; meet(3, 4);",
            "meet(4, 0);",
            "keep(0, 0) = 2; bake(0, 0) = 2; whereByAll(0) = NONE; whereByAll(8) = NONE; where(3, 0) = 3;",
            "where(4, 8) = 4");
    }

    private static void bakeLacksSomething() {
        for (int food = 0; food < 8; food++) {
            Run.of("or the cake lacks something of a food: one of eight", NEED_ALL.replace("3)", "1)"),
                Run.each(0, 7, "put(0, %d)").replace("put(0, " + food + ");", ""), "plan(0, 0, 0) = 0; keep(0, 0) = 7;",
                "bake(0, 0) = STATE;", Run.with(food, "lacks(0, 0, %d) = 1; put(0, %d); bake(0, 0) = STATE;"
                + "keep(0, 0) = 1;"),
                "bake(0, 0) = 8; count(0, 0) = 0; words() = 26");
        }
        Run.of("lacks something: one of three", "setNeed(0, 0, 3); put(0, 0); put(0, 8); plan(0, 0, 0) = 0;",
            "keep(0, 0) = 2;",
            "bake(0, 0) = STATE; setNeed(0, 0, 2); bake(0, 0) = 2");
        Run.of("lacks something: what is kept is gone", "setNeed(0, 0, 1); put(0, 0); plan(0, 0, 0) = 0;",
            "keep(0, 0) = 1;",
            "meet(0, 1); take(1, 0) = 0; bake(1, 0) = STATE; bake(0, 0) = 1");
        Run.of("lacks something: what is kept for two is one cake's", "setNeed(0, 0, 1); put(0, 0); plan(0, 0, 0) = 0;",
            "plan(0, 0, 0) = 1; meet(0, 1); keep(0, 0) = 1; keep(1, 1) = 1; meet(0, 1); bake(1, 1) = STATE;",
            "bake(1, 0) = 1");
    }

    /** Things 0, 1 and 8 are taken with the stamps 10, 11 and 12: fridge 1 writes of one of them with the stamp 11. */
    private static void bakeByRisingNumbers() {
        String ahead = "setNeed(0, 0, 2); setNeed(0, 1, 1); put(0, 0); put(0, 1); put(0, 8); plan(0, 0, 0) = 0;"
                + "keep(0, 0) = 3; meet(0, 1); clock(1) = 7; guest(0, 0, 0, 0, 0) = 8; guest(0, 0, 0, 0, 0) = 9;"
                + "bake(0, 0) = 3; clock(0) = 13;" + Run.times(3, "guest(1, 1, 0, 0, 0)") + "clock(1) = 10;";
        Run.of("a TAKE for each thing, by rising numbers: of 0", ahead, "put(1, 0) = 11; whereByAll(0) = 1");
        Run.of("a TAKE for each thing, by rising numbers: of 1", ahead, "put(1, 1) = 11; whereByAll(1) = 1");
        Run.of("a TAKE for each thing, by rising numbers: of 8", ahead, "put(1, 8) = 11; whereByAll(8) = NONE");
        Run.of("a TAKE for each thing, by rising numbers: of 8, 1 later", ahead, "put(1, 9); put(1, 8) = 12;",
            "whereByAll(8) = 1");
        String less = ahead.replace(Run.times(3, "guest(1, 1, 0, 0, 0)") + "clock(1) = 10;",
            Run.times(2, "guest(1, 1, 0, 0, 0)") + "clock(1) = 9;");
        Run.of("a TAKE for each thing, by rising numbers: of 1, 1 earlier", less, "put(1, 1) = 10;",
            "whereByAll(1) = NONE");
        Run.of("and then the BAKE", ahead, "put(0, 39) = 14; words() = 17; meet(0, 1) = 10; cake(1, 0) = BAKED");
    }

    private static void bakeAsManyAsThereCanBe() {
        Run.of("a TAKE for each thing that is kept for it: all 40", KEPT_ALL, Run.each(0, 7, "lacks(1, 0, %d) = 0"),
            "bake(1, 0) = 40; words() = 122;", Run.each(0, 7, "count(1, %d) = 0; countByAll(%d) = 0;"
            + "count(0, %d) = 5"));
    }

    private static void bakeAtTheLastWord() {
        Run.of("bake: up to 240 words", KEPT_ALL, fill(2, 118), "words() = 199; bake(0, 0) = 40; words() = 240");
        Run.of("bake: more than 240 words, none is written", KEPT_ALL, fill(2, 119), "words() = 200;",
            "bake(0, 0) = STATE;",
            "words() = 200; cake(0, 0) = OPEN; countByAll(0) = 5; take(0, 39) = 1; drop(0, 0) = 39");
        Run.of("bake: the 240th word", "plan(0, 0, 0) = 0;", fill(1, 238), "bake(0, 0) = 0; words() = 240");
        Run.of("bake: one word with 240 of them", "plan(0, 0, 0) = 0;", fill(1, 239), "bake(0, 0) = STATE;",
            "cake(0, 0) = OPEN");
        Run.of("bake: one thing and the BAKE, room for one word", "setNeed(0, 0, 1); put(0, 0); plan(0, 0, 0) = 0;",
            "keep(0, 0) = 1;", fill(1, 236), "words() = 239; bake(0, 0) = STATE; where(0, 0) = 0; take(0, 0) = 0;",
            "words() = 240");
    }

    private static void states() {
        Run.of("UNKNOWN as long as the fridge does not know its PLAN", "plan(4, 0, 0) = 0; cake(4, 0) = OPEN;",
            Run.each(0, 3, "cake(%d, 0) = UNKNOWN"), "meet(4, 0); cake(0, 0) = OPEN; drop(4, 0); cake(4, 0) = DROPPED;",
            "cake(0, 0) = OPEN; cake(1, 0) = UNKNOWN; meet(4, 1); cake(1, 0) = DROPPED; bake(0, 0) = 0;",
            "cake(0, 0) = BAKED;",
            "cake(4, 0) = DROPPED; meet(1, 0); cake(1, 0) = BAKED; cake(0, 0) = BAKED; cake(2, 0) = UNKNOWN");
        String known = "plan(0, 0, 0) = 0; meet(0, 1);";
        Run.of("both dropped and baked is baked: the DROP is later", known, "put(0, 0); bake(1, 0) = 0;",
            "drop(0, 0) = 0;",
            "meet(0, 1); cake(0, 0) = BAKED; cake(1, 0) = BAKED");
        Run.of("both dropped and baked is baked: the BAKE is later", known, "drop(0, 0) = 0; put(1, 0);",
            "bake(1, 0) = 0;",
            "meet(0, 1); cake(0, 0) = BAKED; cake(1, 0) = BAKED");
        Run.of("dropped twice is dropped", known, "drop(0, 0) = 0; drop(1, 0) = 0; meet(0, 1); cake(0, 0) = DROPPED;",
            "cakes() = 1; words() = 3");
        Run.of("baked twice is baked", known, "bake(0, 0) = 0; bake(1, 0) = 0; meet(0, 1); cake(0, 0) = BAKED;",
            "words() = 3");
        Run.of("the first and the last cake, each for itself", Run.times(20, "plan(0, 0, 0)"), "drop(0, 19);",
            "bake(0, 0);",
            Run.each(1, 18, "cake(0, %d) = OPEN"), "cake(0, 19) = DROPPED; cake(0, 0) = BAKED");
    }
}
