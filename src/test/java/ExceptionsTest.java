// "Exceptions": which one is thrown where several apply, more than 240 words, and that a call that throws changes
// nothing: Run compares all answers ahead of each such call and after it.
public final class ExceptionsTest {
    // things in three places, a guest, and cakes that fridge 0 sees open, dropped, baked, spoilt and not at all;
    // the open one lacks a thing and is unfit
    private static final String STORY = "setNeed(0, 0, 2); setNeed(0, 1, 1); setNeed(1, 7, 1); put(0, 0); put(0, 1);"
            + "put(1, 8); put(2, 39); put(0, 7); plan(0, 0, 5) = 0; plan(0, 1, 6) = 1; plan(0, 2, 7) = 2; meet(0, 1);"
            + "keep(0, 0) = 3; keep(0, 1) = 1; meet(0, 1); take(1, 7) = 0; drop(0, 2) = 0; guest(0, 0, 0, 0, 0);"
            + "bake(0, 1) = 1; meet(0, 1); setNeed(0, 2, 1); plan(3, 0, 9) = 3; plan(0, 3, 8) = 4; bake(0, 4) = 0;"
            + "guest(0, 3, 5, 6, 2); take(0, 0) = 0; guest(2, 5, 5, 5, 1);";
    private static final int WORDS = 23;

    public static void main(String[] args) {
        story();
        numbersAheadOfRanges();
        aheadOfStates();
        aheadOfStatesWithAllWords();
        noSuchNumbers();
        outOfRange();
        asTheMethodSays();
        moreThanAllWords();
        nothingIsHeldAfterAThrow();
        Check.end();
    }

    private static void story() {
        Run.of("what the story tells", STORY, "words() = " + WORDS + "; cakes() = 5; cake(0, 0) = OPEN;",
            "cake(0, 1) = BAKED;",
            "cake(0, 2) = DROPPED; cake(0, 3) = UNKNOWN; cake(0, 4) = BAKED; isSpoilt(0, 1) = true;",
            "isSpoilt(0, 4) = false;",
            "isUnfit(0, 0) = true; lacks(0, 0, 0) = 1; lacks(0, 0, 1) = 0; lacks(0, 0, 2) = 1; where(0, 8) = 1;",
            "keptFor(0, 8) = 0; where(0, 39) = NONE; whereByAll(39) = 2; guests(0, 5) = 8; missing(0, 0) = 1");
    }

    /** Each wrong number with each argument that is out of its range. */
    private static void numbersAheadOfRanges() {
        String sentence = "the first one of the throws clause: no such number, ahead of an argument out of its range";
        String[] ranges = {"-1, 9, 0", "100, 100, 0", "5, 4, 0", "5, 100, 0", "5, -1, 0", "5, 5, -1", "5, 5, 256"};
        for (int none : new int[] {-1, 8}) {
            for (String range : ranges) {
                Run.of(sentence, STORY, Run.with(none, "guest(%d, 3, #) = INDEX; guest(0, %d, #) = INDEX;"
                    + "guest(0, 3, #) = ARGUMENT").replace("#", range));
            }
            for (String range : new String[] {"-1", "100"}) {
                Run.of(sentence, STORY, Run.with(none, "guests(%d, #) = INDEX; plan(%d, 0, #) = INDEX;"
                    + "plan(0, %d, #) = INDEX; setNeed(%d, 0, #) = INDEX; setNeed(0, %d, #) = INDEX;"
                    + "guests(0, #) = ARGUMENT; plan(0, 0, #) = ARGUMENT; setNeed(0, 0, #) = ARGUMENT")
                    .replace("#", range));
            }
            Run.of(sentence, STORY, Run.with(none, "meet(%d, %d) = INDEX; meet(%d, 0) = INDEX; meet(0, %d) = INDEX"));
        }
        Run.of(sentence, STORY, "meet(5, 5) = INDEX; meet(4, 4) = ARGUMENT; guests(5, 100) = INDEX;",
            "setNeed(6, 0, 4) = INDEX; setNeed(5, 0, 4) = ARGUMENT; setNeed(0, 7, 4) = ARGUMENT;",
            "plan(5, 0, 100) = INDEX; plan(0, 6, 100) = INDEX; plan(4, 5, 100) = ARGUMENT");
    }

    /** Each call would throw a later exception of its clause too, if it did not throw the first one. */
    private static void aheadOfStates() {
        Run.of("the first one of the throws clause: IndexOutOfBoundsException ahead of IllegalStateException", STORY,
            "take(5, 7) = INDEX; take(0, 40) = INDEX; put(-1, 1) = INDEX; keep(5, 2) = INDEX; keep(0, 5) = INDEX;",
            "drop(-1, 1) = INDEX; drop(0, 5) = INDEX; bake(5, 0) = INDEX; bake(0, -1) = INDEX; plan(-1, 0, 5) = INDEX");
        Run.of("the first one of the throws clause: IllegalArgumentException ahead of IllegalStateException",
            Run.times(20, "plan(0, 0, 0)"), "setNeed(0, 0, 1); guest(0, 0, 0, 99, 1); plan(0, 0, 99) = STATE;",
            "plan(0, 0, 100) = ARGUMENT; plan(0, 0, -1) = ARGUMENT; plan(0, 6, 99) = INDEX; plan(5, 0, 99) = INDEX");
    }

    private static void aheadOfStatesWithAllWords() {
        String full = STORY + Run.times(240 - WORDS, "guest(4, 7, 99, 99, 0)") + "words() = 240;";
        Run.of("the first one of the throws clause, with 240 words", full, "put(5, 2) = INDEX; put(0, 40) = INDEX;",
            "take(5, 1) = INDEX; take(0, -1) = INDEX; guest(5, 0, 0, 0, 0) = INDEX; guest(0, 8, 0, 0, 0) = INDEX;",
            "guest(0, 0, -1, 0, 0) = ARGUMENT; guest(0, 0, 1, 0, 0) = ARGUMENT; guest(0, 0, 0, 100, 0) = ARGUMENT;",
            "guest(0, 0, 0, 0, 256) = ARGUMENT; guest(0, 0, 0, 0, -1) = ARGUMENT; guest(5, 8, 100, 100, 256) = INDEX;",
            "plan(5, 0, 0) = INDEX; plan(0, 6, 0) = INDEX; plan(0, 0, 100) = ARGUMENT; plan(0, 0, -1) = ARGUMENT;",
            "keep(5, 0) = INDEX; keep(0, 5) = INDEX; drop(5, 0) = INDEX; drop(0, 5) = INDEX; bake(5, 0) = INDEX;",
            "bake(0, 5) = INDEX");
    }

    private static void noSuchNumbers() {
        for (int fridge : new int[] {-1, 5}) {
            Run.of("there is no such fridge", STORY, Run.with(fridge, "put(%d, 2) = INDEX; take(%d, 1) = INDEX;"
                + "where(%d, 1) = INDEX;"
                + "count(%d, 1) = INDEX; claims(%d, 1) = INDEX; meet(%d, 0) = INDEX; meet(0, %d) = INDEX;"
                + "known(%d) = INDEX;"
                + "clock(%d) = INDEX; guest(%d, 0, 0, 0, 0) = INDEX; guests(%d, 0) = INDEX; plan(%d, 5, 0) = INDEX;"
                + "keep(%d, 0) = INDEX; drop(%d, 0) = INDEX; bake(%d, 0) = INDEX; cake(%d, 0) = INDEX;"
                + "keptFor(%d, 1) = INDEX;"
                + "lacks(%d, 0, 0) = INDEX; isUnfit(%d, 0) = INDEX; isSpoilt(%d, 1) = INDEX; missing(%d, 0) = INDEX"));
        }
        Run.of("there is no such thing, food, recipe, guest or cake", STORY, "put(0, 40) = INDEX; take(0, 40) = INDEX;",
            "where(0, 40) = INDEX; whereByAll(40) = INDEX; claims(0, 40) = INDEX; keptFor(0, 40) = INDEX;",
            "keptByAll(40) = INDEX;",
            "count(0, 8) = INDEX; countByAll(8) = INDEX; setNeed(0, 8, 3) = INDEX; lacks(0, 0, 8) = INDEX;",
            "missing(0, 8) = INDEX;",
            "setNeed(6, 0, 3) = INDEX; plan(0, 6, 0) = INDEX; guest(0, 8, 0, 0, 0) = INDEX; keep(0, 5) = INDEX;",
            "drop(0, 5) = INDEX;",
            "bake(0, 5) = INDEX; cake(0, 5) = INDEX; lacks(0, 5, 0) = INDEX; isUnfit(0, 5) = INDEX;",
            "isSpoilt(0, 5) = INDEX");
    }

    private static void outOfRange() {
        Run.of("another argument is out of its range", STORY, Run.each(0, 4, "meet(%d, %d) = ARGUMENT"),
            "guest(0, 3, -1, 6, 0) = ARGUMENT; guest(0, 3, 100, 100, 0) = ARGUMENT; guest(0, 3, 6, 5, 0) = ARGUMENT;",
            "guest(0, 3, 5, 100, 0) = ARGUMENT; guest(0, 3, 5, 6, 256) = ARGUMENT; guest(0, 3, 5, 6, -1) = ARGUMENT;",
            "guests(0, 100) = ARGUMENT; guests(0, -1) = ARGUMENT; setNeed(0, 0, 4) = ARGUMENT;",
            "setNeed(0, 0, -1) = ARGUMENT;",
            "plan(0, 0, 100) = ARGUMENT; plan(0, 0, -1) = ARGUMENT");
    }

    private static void asTheMethodSays() {
        Run.of("IllegalStateException as the method says", STORY, "put(0, 1) = STATE; put(2, 39) = STATE;",
            "take(0, 7) = STATE;",
            "take(0, 39) = STATE; take(0, 2) = STATE; plan(0, 0, 5) = STATE; plan(2, 0, 5) = STATE;",
            Run.each(1, 4, "keep(0, %d) = STATE; drop(0, %d) = STATE; bake(0, %d) = STATE"), "bake(0, 0) = STATE;",
            "bake(1, 0) = STATE");
    }

    /** The words are those of a fridge that the others have not met, so each fridge has clocks and views of its own. */
    private static void moreThanAllWords() {
        String nearly = STORY + "put(0, 16) = 19;" + Run.times(240 - WORDS - 3, "guest(4, 7, 99, 99, 0)");
        Run.of("if there would be more than 240: two words more are written, not three", nearly, "words() = 238;",
            "setNeed(0, 2, 0);",
            "lacks(0, 0, 0) = 1; keep(0, 0) = 1; words() = 239; lacks(0, 0, 0) = 0; bake(0, 0) = STATE; words() = 239;",
            "put(3, 3) = 2; words() = 240; take(0, 16) = STATE; drop(0, 0) = STATE");
        String full = STORY + "put(0, 16) = 19;" + Run.times(240 - WORDS - 1, "guest(4, 7, 99, 99, 0)")
            + "words() = 240;";
        Run.of("for each call that would write words, if there would be more than 240", full,
            Run.each(0, 4, "put(%d, 9) = STATE;"
            + "guest(%d, 0, 0, 0, 0) = STATE; plan(%d, 5, 0) = STATE"), "take(0, 1) = STATE; take(1, 8) = STATE;",
            "take(2, 39) = STATE;",
            "keep(0, 0) = STATE; drop(0, 0) = STATE; drop(1, 0) = STATE; drop(3, 3) = STATE; setNeed(0, 0, 0);",
            "setNeed(0, 1, 0);",
            "setNeed(0, 2, 0); bake(3, 3) = STATE; bake(0, 0) = STATE; keep(0, 0) = 0; keep(3, 3) = 0");
        Run.of("calls that write no words go on with 240 of them", full, "meet(4, 0); meet(0, 1); meet(1, 2);",
            "meet(2, 3); meet(3, 4);",
            "known(3) = 240; known(4) = 240; setNeed(5, 7, 3) = 0; where(3, 8) = 1; count(4, 0) = 2;",
            "guests(4, 99) = 128; cakes() = 5");
    }

    private static void nothingIsHeldAfterAThrow() {
        Run.of("after calls that throw, all goes on as without them", STORY, "put(5, 0) = INDEX; put(0, 1) = STATE;",
            "put(0, 2) = 19;",
            "plan(0, 0, 5) = STATE; plan(0, 0, 4) = 5; keep(0, 3) = STATE; keep(0, 5) = 1;",
            "guest(0, 0, 1, 0, 0) = ARGUMENT;",
            "guest(0, 0, 1, 1, 0) = 22; bake(0, 0) = STATE; drop(0, 0) = 2; words() = 28; meet(0, 0) = ARGUMENT;",
            "known(1) = 16");
    }
}
