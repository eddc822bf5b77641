// Promises 13 to 15: guest, guests, setNeed.
public final class GuestsTest {
    private static final int[] NO_FRIDGE = {-1, 5, Integer.MIN_VALUE, Integer.MAX_VALUE};
    private static final int[] NO_EIGHTH = {-1, 8, Integer.MIN_VALUE, Integer.MAX_VALUE};
    private static final int[] NO_DAY = {-1, 100, Integer.MIN_VALUE, Integer.MAX_VALUE};

    public static void main(String[] args) {
        guest();
        latestWord();
        wrongGuest();
        setNeed();
        Check.end();
    }

    private static void guest() {
        FridgeGossip x = new FridgeGossip();
        Check.due("stamp", x.guest(0, 0, 10, 20, 0), 1);
        Check.due("next stamp", x.guest(0, 7, 20, 20, 255), 2);
        Check.due("ahead", x.guests(0, 9), 0);
        Check.due("first day", x.guests(0, 10), 1);
        Check.due("last day", x.guests(0, 20), 129);
        Check.due("afterwards", x.guests(0, 21), 0);
        Check.due("another fridge", x.guests(1, 20), 0);
        x.guest(0, 3, 0, 99, 1);
        Check.due("day 0", x.guests(0, 0), 8);
        Check.due("day 99", x.guests(0, 99), 8);
        x.guest(0, 3, 99, 99, 1);
        Check.due("the word counts that is the latest", x.guests(0, 0), 0);
        Check.due("day 99 still", x.guests(0, 99), 8);
        x.guest(0, 3, 0, 0, 1);
        Check.due("day 0 alone", x.guests(0, 0), 8);
        Check.due("words", x.words(), 5);
    }

    private static void latestWord() {
        FridgeGossip x = new FridgeGossip();
        x.guest(3, 2, 5, 5, 0);
        x.guest(1, 2, 6, 6, 0);
        x.meet(1, 3);
        Check.due("of one stamp the greater fridge, 5", x.guests(1, 5), 4);
        Check.due("of one stamp the greater fridge, 6", x.guests(3, 6), 0);
        x.guest(1, 2, 7, 8, 0);
        Check.due("the later word", x.guests(1, 7), 4);
        Check.due("not known to 3", x.guests(3, 5), 4);
        x.guest(0, 2, 9, 9, 0);
        x.meet(0, 1);
        Check.due("a word with a smaller stamp", x.guests(0, 9), 0);
        Check.due("and the greater one", x.guests(0, 8), 4);
    }

    private static void wrongGuest() {
        FridgeGossip x = new FridgeGossip();
        for (int f : NO_FRIDGE) {
            Check.dueThrow("guest fridge " + f, Check.INDEX, () -> x.guest(f, 0, -1, -2, -3));
            Check.dueThrow("guests fridge " + f, Check.INDEX, () -> x.guests(f, -1));
        }
        for (int g : NO_EIGHTH) {
            Check.dueThrow("guest guest " + g, Check.INDEX, () -> x.guest(0, g, -1, -2, -3));
        }
        for (int day : NO_DAY) {
            Check.dueThrow("guest first " + day, Check.ARGUMENT, () -> x.guest(0, 0, day, 99, 0));
            Check.dueThrow("guest first and last " + day, Check.ARGUMENT, () -> x.guest(0, 0, day, day, 0));
            Check.dueThrow("guest last " + day, Check.ARGUMENT, () -> x.guest(0, 0, 0, day, 0));
            Check.dueThrow("guests day " + day, Check.ARGUMENT, () -> x.guests(0, day));
        }
        Check.dueThrow("last ahead of first", Check.ARGUMENT, () -> x.guest(0, 0, 50, 49, 0));
        Check.dueThrow("dislikes -1", Check.ARGUMENT, () -> x.guest(0, 0, 0, 0, -1));
        Check.dueThrow("dislikes 256", Check.ARGUMENT, () -> x.guest(0, 0, 0, 0, 256));
        Check.due("nothing was written", x.words(), 0);
        Check.due("clock stays", x.clock(0), 0);
        Check.due("no guest", x.guests(0, 0), 0);
    }

    private static void setNeed() {
        FridgeGossip x = new FridgeGossip();
        Check.due("at first", x.setNeed(0, 0, 3), 0);
        Check.due("what it needed", x.setNeed(0, 0, 1), 3);
        Check.due("the same again", x.setNeed(0, 0, 1), 1);
        Check.due("another food", x.setNeed(0, 7, 2), 0);
        Check.due("another recipe", x.setNeed(5, 0, 2), 0);
        Check.due("the last of both", x.setNeed(5, 7, 3), 0);
        for (int recipe : new int[] {-1, 6, Integer.MIN_VALUE, Integer.MAX_VALUE}) {
            Check.dueThrow("recipe " + recipe, Check.INDEX, () -> x.setNeed(recipe, 0, 4));
        }
        for (int food : NO_EIGHTH) {
            Check.dueThrow("food " + food, Check.INDEX, () -> x.setNeed(0, food, 4));
        }
        for (int things : new int[] {-1, 4, Integer.MIN_VALUE, Integer.MAX_VALUE}) {
            Check.dueThrow("things " + things, Check.ARGUMENT, () -> x.setNeed(0, 0, things));
        }
        Check.due("stays after what throws", x.setNeed(0, 0, 0), 1);
        x.plan(1, 5, 3);
        Check.due("for all fridges", x.lacks(1, 0, 7), 3);
        x.setNeed(5, 7, 1);
        Check.due("for cakes that are planned too", x.lacks(1, 0, 7), 1);
        Check.due("no word of it", x.words(), 1);
    }
}
