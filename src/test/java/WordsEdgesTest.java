// The edges of "Fridges and words" and of the promises 9 to 12: meet, words, known, clock.
public final class WordsEdgesTest {
    // a word of guest 7, who comes on day 99 and dislikes nothing
    private static final String WORD = "guest(%d, 7, 99, 99, 0)";

    public static void main(String[] args) {
        foodOfEachThing();
        clockAtFirst();
        clockOfEachKind();
        onlyTheWriterKnows();
        wordsOfOneFridge();
        wordsOfAllFridges();
        greaterStampIsLater();
        ofOneStampTheGreaterFridge();
        lateStamps();
        ofOneStampForTakeAndGuest();
        bothKnowAll();
        noChainOfMeetings();
        greaterClock();
        knownToJustOne();
        needIsNoWord();
        Check.end();
    }

    private static String fill(int fridge, int times) {
        return Run.times(times, Run.with(fridge, WORD));
    }

    private static void foodOfEachThing() {
        for (int thing = 0; thing < 40; thing++) {
            StringBuilder rows = new StringBuilder("put(3, " + thing + ") = 1;");
            for (int food = 0; food < 8; food++) {
                int due = thing % 8 == food ? 1 : 0;
                rows.append("count(3, " + food + ") = " + due + "; countByAll(" + food + ") = " + due + ";");
            }
            Run.of("The food of a thing is the remainder of its number by 8", rows.toString());
        }
    }

    private static void clockAtFirst() {
        Run.of("A fridge has a clock, 0 at first", Run.each(0, 4, "clock(%d) = 0; known(%d) = 0"), "words() = 0");
    }

    private static void clockOfEachKind() {
        Run.of("When it writes a word, its clock becomes 1 more, and the word has this as its stamp",
            "setNeed(0, 0, 1); clock(4) = 0; put(4, 0) = 1; clock(4) = 1; plan(4, 0, 0) = 0; clock(4) = 2;",
            "keep(4, 0) = 1; clock(4) = 3; guest(4, 0, 0, 0, 0) = 4; clock(4) = 4; drop(4, 0) = 1; clock(4) = 5;",
            "take(4, 0) = 4; clock(4) = 6; plan(4, 1, 0) = 1; clock(4) = 7; bake(4, 1) = 0; clock(4) = 8;",
            "put(4, 0) = 9; words() = 9; known(4) = 9");
        Run.of("a word for each thing that is kept, and for each that is taken by a BAKE",
            "setNeed(0, 0, 2); setNeed(0, 7, 1); put(1, 0) = 1; put(1, 8) = 2; put(1, 7) = 3; plan(1, 0, 0) = 0;",
            "keep(1, 0) = 3; clock(1) = 7; words() = 7; bake(1, 0) = 3; clock(1) = 11; words() = 11; put(1, 0) = 12");
    }

    private static void onlyTheWriterKnows() {
        Run.of("the fridge knows it: no other one does", "put(0, 5) = 1; known(0) = 1;",
            Run.each(1, 4, "known(%d) = 0; clock(%d) = 0; where(%d, 5) = NONE; count(%d, 5) = 0"));
        Run.of("what a fridge sees is what the words tell that it knows",
            "guest(1, 3, 0, 99, 1) = 1; plan(1, 0, 50) = 0; guests(1, 50) = 8; cake(1, 0) = OPEN;",
            Run.each(2, 4, "guests(%d, 50) = 0; cake(%d, 0) = UNKNOWN"));
    }

    private static void wordsOfOneFridge() {
        Run.of("There can be 240 words in all: of one fridge", fill(2, 239),
            "words() = 239; clock(2) = 239; known(2) = 239; guest(2, 0, 0, 0, 0) = 240;",
            "words() = 240; clock(2) = 240; known(2) = 240; guest(2, 0, 0, 0, 0) = STATE; words() = 240;",
            "put(0, 0) = STATE; known(0) = 0; clock(0) = 0");
    }

    private static void wordsOfAllFridges() {
        Run.of("There can be 240 words in all: of five fridges", Run.times(48, Run.each(0, 4, WORD)),
            "words() = 240;", Run.each(0, 4, "known(%d) = 48; clock(%d) = 48"),
            Run.each(0, 4, "put(%d, 0) = STATE; guest(%d, 0, 0, 0, 0) = STATE"), "meet(0, 1) = 96; words() = 240");
    }

    private static void greaterStampIsLater() {
        Run.of("that with the greater stamp is later: written ahead, by a smaller fridge",
            "put(0, 1) = 1; put(0, 0) = 2; put(4, 0) = 1; whereByAll(0) = 0; meet(0, 4) = 3;",
            "where(0, 0) = 0; where(4, 0) = 0");
        Run.of("that with the greater stamp is later: written afterwards, by a smaller fridge",
            "put(4, 0) = 1; put(0, 1) = 1; put(0, 0) = 2; whereByAll(0) = 0; meet(4, 0) = 3; where(4, 0) = 0");
        Run.of("that with the greater stamp is later: written ahead, by a greater fridge",
            "put(4, 1) = 1; put(4, 0) = 2; put(0, 0) = 1; whereByAll(0) = 4; meet(0, 4) = 3; where(0, 0) = 4");
        Run.of("stamps are numbers: 10 is later than 9", fill(0, 9), "put(0, 0) = 10;", fill(4, 8),
            "put(4, 0) = 9; whereByAll(0) = 0; meet(0, 4) = 19; where(4, 0) = 0");
    }

    private static void ofOneStampTheGreaterFridge() {
        for (int one = 0; one < 4; one++) {
            for (int other = one + 1; other < 5; other++) {
                String due = "whereByAll(0) = " + other + "; meet(" + one + ", " + other + ") = 2; where(" + one
                        + ", 0) = " + other + "; where(" + other + ", 0) = " + other;
                String first = "put(" + one + ", 0) = 1;";
                String second = "put(" + other + ", 0) = 1;";
                Run.of("of one stamp that of the fridge with the greater number", first, second, due);
                Run.of("of one stamp that of the fridge with the greater number, written ahead", second, first, due);
            }
        }
    }

    private static void lateStamps() {
        Run.of("of one stamp, with 240 words", fill(3, 119), "put(3, 0) = 120;", fill(2, 119),
            "put(2, 0) = 120; words() = 240; whereByAll(0) = 3; meet(2, 3) = 240; where(2, 0) = 3; known(2) = 240");
        Run.of("a stamp that is 1 less", fill(2, 119), "put(2, 0) = 120;", fill(3, 118),
            "put(3, 0) = 119; words() = 239; whereByAll(0) = 2; meet(2, 3) = 239; where(3, 0) = 2");
    }

    private static void ofOneStampForTakeAndGuest() {
        Run.of("of one stamp: a TAKE of a smaller fridge is ahead of the PUT of a greater one",
            "put(0, 8) = 1; meet(0, 1) = 1; take(0, 8) = 0; put(1, 8) = 2; whereByAll(8) = 1; meet(0, 1);",
            "where(0, 8) = 1");
        Run.of("of one stamp: a TAKE of a greater fridge is later than the PUT of a smaller one",
            "put(2, 8) = 1; meet(2, 1) = 1; take(2, 8) = 2; put(1, 8) = 2; whereByAll(8) = NONE; meet(2, 1);",
            "where(1, 8) = NONE; where(2, 8) = NONE");
        Run.of("of one stamp: the GUEST word of the greater fridge",
            "guest(4, 0, 4, 4, 0) = 1; guest(3, 0, 3, 3, 0) = 1; meet(3, 4) = 2; guests(3, 4) = 1; guests(3, 3) = 0");
    }

    private static void bothKnowAll() {
        Run.of("When two fridges meet, both know all words that either knew",
            "put(0, 0); put(0, 1); put(4, 2); meet(0, 4) = 3; known(0) = 3; known(4) = 3;",
            "where(0, 2) = 4; where(4, 0) = 0; where(4, 1) = 0; known(1) = 0; meet(4, 0) = 0; words() = 3");
        Run.of("all words: as many as there can be", fill(1, 239), "put(1, 39) = 240; meet(4, 1) = 240;",
            "known(4) = 240; known(1) = 240; clock(4) = 240; where(4, 39) = 1; guests(4, 99) = 128; meet(1, 4) = 0");
    }

    private static void noChainOfMeetings() {
        Run.of("what a fridge learns it tells at its own next meeting, not ahead of it",
            "put(0, 0) = 1; meet(1, 2) = 0; meet(0, 1) = 1; known(2) = 0; where(2, 0) = NONE; meet(1, 2) = 1;",
            "where(2, 0) = 0; put(0, 1) = 2; known(1) = 1; known(2) = 1; where(1, 1) = NONE");
    }

    private static void greaterClock() {
        Run.of("the clocks of both become the greater one of them: the first one's",
            "put(0, 0); put(0, 1); put(1, 2); meet(0, 1) = 3; clock(0) = 2; clock(1) = 2; clock(2) = 0;",
            "put(1, 3) = 3; put(0, 4) = 3");
        Run.of("the clocks of both become the greater one of them: the second one's",
            "put(0, 0); put(0, 1); put(1, 2); meet(1, 0) = 3; clock(0) = 2; clock(1) = 2; put(0, 3) = 3");
        Run.of("the clocks of both become the greater one of them: as many",
            "put(0, 0); put(1, 1); meet(0, 1) = 2; clock(0) = 1; clock(1) = 1; put(1, 2) = 2; clock(0) = 1");
        Run.of("a clock goes on with what was met", "put(0, 0); meet(0, 1); put(1, 1) = 2; meet(1, 2); put(2, 2) = 3;",
            "meet(2, 0) = 2; clock(0) = 3; put(0, 3) = 4; clock(1) = 2");
    }

    private static void knownToJustOne() {
        Run.of("how many words were known to just one of them: none yet", "meet(0, 4) = 0; meet(4, 0) = 0");
        Run.of("how many words were known to just one of them: of the first one alone", "put(3, 0); meet(3, 2) = 1");
        Run.of("how many words were known to just one of them: of the second one alone", "put(3, 0); meet(2, 3) = 1");
        Run.of("how many words were known to just one of them: neither what both nor what none of them knew",
            "put(0, 0); meet(0, 1) = 1; put(0, 1); put(1, 2); put(1, 3); put(2, 4); meet(0, 1) = 3; known(0) = 4;",
            "words() = 5; meet(2, 0) = 5");
        Run.of("another one", Run.each(0, 4, "meet(%d, %d) = ARGUMENT"),
            Run.each(0, 4, "put(%d, 0) = 1; meet(%d, %d) = ARGUMENT"), "words() = 5;", Run.each(0, 4, "known(%d) = 1"));
    }

    private static void needIsNoWord() {
        Run.of("what a recipe needs is set for all, and is no word", "setNeed(5, 7, 3) = 0; words() = 0;",
            Run.each(0, 4, "known(%d) = 0; clock(%d) = 0; plan(%d, 5, 0) = %d; lacks(%d, %d, 7) = 3"),
            "setNeed(5, 7, 1) = 3;", Run.each(0, 4, "lacks(%d, %d, 7) = 1; known(%d) = 1"), "words() = 5");
    }
}
