// Promises 9 to 12: meet, words, known, clock.
public final class MeetingTest {
    private static final int[] NO_FRIDGE = {-1, 5, Integer.MIN_VALUE, Integer.MAX_VALUE};

    public static void main(String[] args) {
        meet();
        clocks();
        anyOrder();
        noSuchNumbers();
        Check.end();
    }

    private static void meet() {
        FridgeGossip x = new FridgeGossip();
        Check.due("meet without words", x.meet(0, 4), 0);
        x.put(0, 1);
        x.put(0, 2);
        x.put(1, 3);
        Check.due("words", x.words(), 3);
        Check.due("known 0", x.known(0), 2);
        Check.due("known 1", x.known(1), 1);
        Check.due("known 2", x.known(2), 0);
        Check.due("meet counts what just one knew", x.meet(0, 1), 3);
        Check.due("known 0 after", x.known(0), 3);
        Check.due("known 1 after", x.known(1), 3);
        Check.due("known 2 after", x.known(2), 0);
        Check.due("meet again", x.meet(1, 0), 0);
        x.put(2, 4);
        x.put(0, 5);
        Check.due("1 and 2", x.meet(2, 1), 4);
        Check.due("0 and 2", x.meet(0, 2), 2);
        Check.due("0 and 1", x.meet(0, 1), 1);
        Check.due("words are not written by meeting", x.words(), 5);
        Check.due("1 knows all", x.known(1), 5);
        Check.due("4 knows none", x.known(4), 0);
    }

    private static void clocks() {
        FridgeGossip x = new FridgeGossip();
        x.put(0, 1);
        x.put(0, 2);
        x.put(0, 3);
        x.put(1, 4);
        Check.due("clock 0", x.clock(0), 3);
        Check.due("clock 1", x.clock(1), 1);
        x.meet(1, 0);
        Check.due("the greater one for 0", x.clock(0), 3);
        Check.due("the greater one for 1", x.clock(1), 3);
        Check.due("another's stays", x.clock(2), 0);
        Check.due("next stamp", x.put(1, 9), 4);
        Check.due("0 did not write", x.clock(0), 3);
        x.meet(0, 2);
        Check.due("2 learns the clock", x.clock(2), 3);
        x.meet(2, 1);
        Check.due("and again", x.clock(2), 4);
        x.setNeed(0, 0, 1);
        x.plan(2, 0, 0);
        Check.due("PLAN is a word", x.clock(2), 5);
        x.drop(2, 0);
        Check.due("DROP is a word", x.clock(2), 6);
        x.guest(2, 0, 0, 0, 0);
        Check.due("GUEST is a word", x.clock(2), 7);
        x.setNeed(0, 0, 2);
        Check.due("what a recipe needs is none", x.words(), 8);
    }

    /** Whatever the order in which they meet, those that know the same words see the same. */
    private static void anyOrder() {
        String first = told(new int[] {0, 1, 1, 2, 2, 3, 3, 4, 0, 4, 1, 4, 2, 4, 3, 4});
        String second = told(new int[] {4, 2, 2, 0, 3, 1, 1, 0, 4, 0, 0, 2, 0, 3, 1, 0});
        Check.due("the same words", first, second);
    }

    private static String told(int[] meetings) {
        FridgeGossip x = new FridgeGossip();
        x.setNeed(0, 0, 2);
        x.setNeed(1, 1, 1);
        for (int f = 0; f < 5; f++) {
            x.put(f, 0);
            x.put(f, 8);
            x.plan(f, f % 2, 9 - f);
            x.guest(f, 0, f, 10, f);
            x.keep(f, f);
        }
        x.take(3, 8);
        x.bake(2, 2);
        for (int i = 0; i < meetings.length; i += 2) {
            x.meet(meetings[i], meetings[i + 1]);
        }
        StringBuilder all = new StringBuilder();
        for (int f = 0; f < 5; f++) {
            StringBuilder one = new StringBuilder();
            one.append(x.known(f)).append(' ').append(x.guests(f, 2)).append(' ').append(x.missing(f, 0));
            for (int thing = 0; thing < 40; thing += 8) {
                one.append(' ').append(x.where(f, thing)).append(' ').append(x.claims(f, thing));
                one.append(' ').append(x.keptFor(f, thing));
            }
            for (int cake = 0; cake < 5; cake++) {
                one.append(' ').append(x.cake(f, cake)).append(x.isUnfit(f, cake)).append(x.isSpoilt(f, cake));
                one.append(x.lacks(f, cake, 0));
            }
            if (f > 0) {
                Check.due("fridge " + f, one.toString(), all.toString());
            } else {
                all.append(one);
            }
        }
        return all.toString();
    }

    private static void noSuchNumbers() {
        FridgeGossip x = new FridgeGossip();
        x.put(0, 0);
        for (int f : NO_FRIDGE) {
            Check.dueThrow("meet fridge " + f, Check.INDEX, () -> x.meet(f, 0));
            Check.dueThrow("meet other " + f, Check.INDEX, () -> x.meet(0, f));
            Check.dueThrow("meet both " + f, Check.INDEX, () -> x.meet(f, f));
            Check.dueThrow("known fridge " + f, Check.INDEX, () -> x.known(f));
            Check.dueThrow("clock fridge " + f, Check.INDEX, () -> x.clock(f));
        }
        for (int f = 0; f < 5; f++) {
            int same = f;
            Check.dueThrow("meet itself", Check.ARGUMENT, () -> x.meet(same, same));
        }
        Check.due("known 0", x.known(0), 1);
        Check.due("known 1", x.known(1), 0);
        Check.due("clock 1", x.clock(1), 0);
    }
}
