// The edges of "Guests" and of the promises 13 to 15: guest, guests, setNeed; and of "A cake is unfit" (25).
public final class GuestsEdgesTest {
    public static void main(String[] args) {
        stampOfGuest();
        bothDaysIncluded();
        withoutWord();
        latestWordCounts();
        setOfGuests();
        guestsAsSeen();
        needs();
        unfitByNeed();
        unfitByDay();
        unfitByGuests();
        unfitOnlyIfOpen();
        Check.end();
    }

    private static void stampOfGuest() {
        Run.of("Returns the stamp of the word: the first one", Run.each(0, 4, "guest(%d, 7, 0, 99, 255) = 1"));
        Run.of("Returns the stamp of the word: up to the last one", Run.times(238, "guest(0, 0, 0, 0, 0)"),
            "guest(0, 7, 0, 0, 0) = 239; guest(0, 7, 0, 0, 0) = 240; guest(0, 7, 0, 0, 0) = STATE; guests(0, 0) = 129");
        Run.of("as for each call that writes: of another fridge", Run.times(240, "guest(0, 0, 0, 0, 0)"),
            "guest(4, 7, 0, 0, 0) = STATE; clock(4) = 0; guests(4, 0) = 0");
    }

    private static void bothDaysIncluded() {
        Run.of("from a first day to a last day, both included", "guest(0, 2, 40, 60, 0) = 1; guests(0, 39) = 0;",
            "guests(0, 40) = 4; guests(0, 41) = 4; guests(0, 59) = 4; guests(0, 60) = 4; guests(0, 61) = 0;",
            "guests(0, 0) = 0; guests(0, 99) = 0");
        Run.of("of one day", "guest(0, 2, 40, 40, 0); guests(0, 39) = 0; guests(0, 40) = 4; guests(0, 41) = 0");
        Run.of("the first day of all", "guest(0, 2, 0, 0, 0); guests(0, 0) = 4; guests(0, 1) = 0; guests(0, 99) = 0");
        Run.of("the last day of all", "guest(0, 2, 99, 99, 0); guests(0, 0) = 0; guests(0, 98) = 0; guests(0, 99) = 4");
        Run.of("all days", "guest(0, 2, 0, 99, 0);", Run.each(0, 99, "guests(0, %d) = 4"));
    }

    private static void withoutWord() {
        Run.of("without one the guest does not come", Run.each(0, 99, "guests(3, %d) = 0"));
        Run.of("without one the guest does not come: another guest's word", "guest(0, 3, 0, 99, 255) = 1;",
            Run.each(0, 99, "guests(0, %d) = 8"));
        Run.of("without one the guest dislikes nothing", "setNeed(0, 0, 3); plan(0, 0, 0) = 0; isUnfit(0, 0) = false");
    }

    private static void latestWordCounts() {
        Run.of("The latest such word of a guest counts", "guest(0, 0, 10, 20, 0); guest(0, 0, 15, 30, 0) = 2;",
            "guests(0, 10) = 0; guests(0, 14) = 0; guests(0, 15) = 1; guests(0, 30) = 1;",
            "guest(0, 0, 99, 99, 0) = 3; guests(0, 15) = 0; guests(0, 99) = 1");
        Run.of("the latest one, not that which was learnt last",
            "guest(1, 0, 1, 1, 0) = 1; guest(0, 5, 0, 0, 0); guest(0, 0, 2, 2, 0) = 2; meet(0, 1);",
            "guests(0, 1) = 0; guests(0, 2) = 1; guests(1, 1) = 0; guests(1, 2) = 1");
        Run.of("of one stamp that of the greater fridge", "guest(4, 0, 1, 1, 0) = 1; guest(0, 0, 2, 2, 0) = 1;",
            "meet(0, 4);",
            "guests(0, 1) = 1; guests(0, 2) = 0; guests(4, 1) = 1; guests(4, 2) = 0");
        Run.of("the latest one has the dislikes too", "setNeed(0, 3, 1); plan(0, 0, 5); guest(0, 0, 0, 99, 8);",
            "isUnfit(0, 0) = true; guest(0, 0, 0, 99, 247); isUnfit(0, 0) = false; guest(0, 0, 0, 99, 255);",
            "isUnfit(0, 0) = true; guest(0, 0, 6, 99, 255); isUnfit(0, 0) = false");
    }

    private static void setOfGuests() {
        Run.of("a set, the bit g for the guest g: from none to all of them", "guests(0, 50) = 0;",
            "guest(0, 0, 50, 50, 0);",
            "guests(0, 50) = 1; guest(0, 1, 50, 50, 0); guests(0, 50) = 3; guest(0, 2, 50, 50, 0); guests(0, 50) = 7;",
            "guest(0, 3, 50, 50, 0); guests(0, 50) = 15; guest(0, 4, 50, 50, 0); guests(0, 50) = 31;",
            "guest(0, 5, 50, 50, 0); guests(0, 50) = 63; guest(0, 6, 50, 50, 0); guests(0, 50) = 127;",
            "guest(0, 7, 50, 50, 0); guests(0, 50) = 255; guests(0, 49) = 0; guests(0, 51) = 0;",
            "guest(0, 0, 51, 51, 0); guests(0, 50) = 254");
        int[] bits = {1, 2, 4, 8, 16, 32, 64, 128};
        for (int guest = 0; guest < 8; guest++) {
            Run.of("a set, the bit g for the guest g", Run.with(guest, "guest(0, %d, 0, 0, 0); guests(0, 0) = "
                    + bits[guest]));
        }
    }

    private static void guestsAsSeen() {
        Run.of("which guests a fridge sees come", "guest(0, 0, 0, 9, 0); guest(1, 1, 9, 9, 0); guests(0, 9) = 1;",
            "guests(1, 9) = 2; guests(2, 9) = 0; meet(0, 1); guests(0, 9) = 3; guests(1, 9) = 3; guests(1, 8) = 1;",
            "guests(2, 9) = 0");
    }

    private static void needs() {
        Run.of("Returns what it needed: from 0 to 3", "setNeed(0, 0, 3) = 0; setNeed(0, 0, 0) = 3;",
            "setNeed(0, 0, 1) = 0;",
            "setNeed(0, 0, 2) = 1; setNeed(0, 0, 2) = 2; setNeed(0, 0, 4) = ARGUMENT; setNeed(0, 0, -1) = ARGUMENT;",
            "setNeed(0, 0, 0) = 2");
        for (int recipe = 0; recipe < 6; recipe++) {
            Run.of("each food of each recipe for itself", Run.each(0, 7, Run.with(recipe, "setNeed(%d,")
                + " %d, 3) = 0"),
                Run.each(0, 5, "plan(0, %d, 0) = %d"), Run.each(0, 5, "lacks(0, %d, 0) = 0; lacks(0, %d, 7) = 0")
                .replace("lacks(0, " + recipe + ", 0) = 0", "lacks(0, " + recipe + ", 0) = 3")
                .replace("lacks(0, " + recipe + ", 7) = 0", "lacks(0, " + recipe + ", 7) = 3"));
        }
        Run.of("is set for cakes that are planned, kept for or baked too", "setNeed(0, 0, 1); put(0, 0);",
            "plan(0, 0, 0);",
            "keep(0, 0) = 1; setNeed(0, 0, 2) = 1; lacks(0, 0, 0) = 1; setNeed(0, 0, 1); bake(0, 0) = 1;",
            "setNeed(0, 0, 3) = 1; cake(0, 0) = BAKED; lacks(0, 0, 0) = 0; missing(0, 0) = 0");
        Run.of("with 240 words too", Run.times(240, "guest(0, 0, 0, 0, 0)"), "setNeed(5, 7, 3) = 0;",
            "setNeed(5, 7, 0) = 3");
    }

    private static void unfitByNeed() {
        Run.of("a food of which its recipe needs some: 0 or 1", "plan(0, 0, 5); guest(0, 0, 5, 5, 1);",
            "isUnfit(0, 0) = false; setNeed(0, 0, 1); isUnfit(0, 0) = true; setNeed(0, 0, 3); isUnfit(0, 0) = true;",
            "setNeed(0, 0, 0); isUnfit(0, 0) = false; setNeed(0, 1, 3); isUnfit(0, 0) = false");
        for (int food = 0; food < 8; food++) {
            Run.of("dislikes a food", Run.with(food, "setNeed(0, %d, 1); plan(0, 0, 5);"),
                "guest(0, 0, 5, 5, " + (1 << food) + "); isUnfit(0, 0) = true;",
                "guest(0, 0, 5, 5, " + (255 - (1 << food)) + "); isUnfit(0, 0) = false;");
        }
        Run.of("kept things do not mend it", "setNeed(0, 0, 1); put(0, 0); plan(0, 0, 5); keep(0, 0) = 1;",
            "guest(0, 0, 5, 5, 1); lacks(0, 0, 0) = 0; isUnfit(0, 0) = true; bake(0, 0) = 1; isUnfit(0, 0) = false");
    }

    private static void unfitByDay() {
        Run.of("a guest who comes on its day", "setNeed(0, 0, 1); plan(0, 0, 49) = 0; plan(0, 0, 50) = 1;",
            "plan(0, 0, 60) = 2; plan(0, 0, 61) = 3; guest(0, 0, 50, 60, 1); isUnfit(0, 0) = false;",
            "isUnfit(0, 1) = true; isUnfit(0, 2) = true; isUnfit(0, 3) = false");
        Run.of("on the first and on the last day of all", "setNeed(0, 0, 1); plan(0, 0, 0) = 0; plan(0, 0, 99) = 1;",
            "guest(0, 0, 1, 98, 1); isUnfit(0, 0) = false; isUnfit(0, 1) = false; guest(0, 0, 0, 0, 1);",
            "isUnfit(0, 0) = true; isUnfit(0, 1) = false; guest(0, 0, 99, 99, 1); isUnfit(0, 0) = false;",
            "isUnfit(0, 1) = true");
    }

    private static void unfitByGuests() {
        for (int guest = 0; guest < 8; guest++) {
            Run.of("one of eight guests dislikes it", "setNeed(0, 4, 1); plan(0, 0, 5);",
                Run.each(0, 7, "guest(0, %d, 5, 5, 239)"), "isUnfit(0, 0) = false;",
                Run.with(guest, "guest(0, %d, 5, 5, 16); isUnfit(0, 0) = true; guest(0, %d, 6, 6, 16);"),
                "isUnfit(0, 0) = false");
        }
        Run.of("by some words: the guest is not known to all", "setNeed(0, 0, 1); plan(0, 0, 5); meet(0, 1);",
            "guest(1, 0, 5, 5, 1); isUnfit(1, 0) = true; isUnfit(0, 0) = false; meet(0, 1); isUnfit(0, 0) = true");
    }

    private static void unfitOnlyIfOpen() {
        String ahead = "setNeed(0, 0, 1); put(0, 0); plan(0, 0, 5); keep(0, 0) = 1; guest(0, 0, 5, 5, 1); meet(0, 1);";
        Run.of("false if it does not see it open: unknown", ahead, "isUnfit(2, 0) = false; isUnfit(0, 0) = true");
        Run.of("false if it does not see it open: dropped", ahead, "drop(0, 0) = 1; isUnfit(0, 0) = false;",
            "isUnfit(1, 0) = true; meet(0, 1); isUnfit(1, 0) = false");
        Run.of("false if it does not see it open: baked", ahead, "bake(0, 0) = 1; isUnfit(0, 0) = false;",
            "isUnfit(1, 0) = true; meet(0, 1); isUnfit(1, 0) = false");
        Run.of("unknown to a fridge that knows the guest", "setNeed(0, 0, 1); plan(0, 0, 5) = 0; guest(1, 0, 5, 5, 1);",
            "isUnfit(1, 0) = false; isUnfit(0, 0) = false; meet(0, 1); isUnfit(1, 0) = true");
    }
}
