// 240 words in all: each call that would write more throws IllegalStateException, and changes nothing.
public final class FullTest {
    public static void main(String[] args) {
        singleWords();
        keepNeedsRoomForAll();
        bakeNeedsRoomForAll();
        Check.end();
    }

    /** Writes words of guest 7, who comes on day 99 and dislikes nothing, until there are so many. */
    private static void fill(FridgeGossip x, int fridge, int words) {
        for (int i = x.words(); i < words; i++) {
            x.guest(fridge, 7, 99, 99, 0);
        }
        Check.due("filled", x.words(), words);
    }

    private static void singleWords() {
        FridgeGossip x = new FridgeGossip();
        x.put(0, 0);
        x.plan(0, 0, 0);
        fill(x, 1, 239);
        Check.due("the 240th word", x.put(0, 8), 3);
        Check.dueThrow("put", Check.STATE, () -> x.put(0, 1));
        Check.dueThrow("take", Check.STATE, () -> x.take(0, 0));
        Check.dueThrow("guest", Check.STATE, () -> x.guest(0, 0, 0, 0, 0));
        Check.dueThrow("plan", Check.STATE, () -> x.plan(0, 0, 0));
        Check.dueThrow("drop", Check.STATE, () -> x.drop(0, 0));
        Check.dueThrow("bake", Check.STATE, () -> x.bake(0, 0));
        Check.dueThrow("guest of a wrong day", Check.ARGUMENT, () -> x.guest(0, 0, 0, 100, 0));
        Check.dueThrow("plan on a wrong day", Check.ARGUMENT, () -> x.plan(0, 0, 100));
        Check.dueThrow("put into no fridge", Check.INDEX, () -> x.put(5, 0));
        Check.due("keep that writes nothing", x.keep(0, 0), 0);
        Check.due("words", x.words(), 240);
        Check.due("cakes", x.cakes(), 1);
        Check.due("clock", x.clock(0), 3);
        Check.due("clock of another", x.clock(1), 237);
        Check.due("where", x.where(0, 1), FridgeGossip.NONE);
        Check.due("still there", x.where(0, 0), 0);
        Check.due("still open", x.cake(0, 0), FridgeGossip.OPEN);
        Check.due("no guest", x.guests(0, 0), 0);
        Check.due("meeting goes on", x.meet(0, 1), 240);
        Check.due("setNeed goes on", x.setNeed(0, 0, 1), 0);
        Check.due("known", x.known(0), 240);
    }

    private static void keepNeedsRoomForAll() {
        FridgeGossip x = new FridgeGossip();
        x.setNeed(0, 0, 3);
        x.setNeed(0, 5, 1);
        x.put(0, 0);
        x.put(0, 8);
        x.put(0, 16);
        x.put(0, 5);
        x.plan(0, 0, 0);
        fill(x, 1, 237);
        Check.dueThrow("four words, room for three", Check.STATE, () -> x.keep(0, 0));
        Check.due("none is kept", x.keptFor(0, 0), FridgeGossip.NONE);
        Check.due("words", x.words(), 237);
        Check.due("clock", x.clock(0), 5);
        x.setNeed(0, 5, 0);
        Check.due("three words", x.keep(0, 0), 3);
        Check.due("full", x.words(), 240);
        Check.due("lacks", x.lacks(0, 0, 0), 0);
    }

    private static void bakeNeedsRoomForAll() {
        FridgeGossip x = new FridgeGossip();
        x.setNeed(0, 0, 2);
        x.put(0, 0);
        x.put(0, 8);
        x.plan(0, 0, 0);
        x.plan(0, 1, 0);
        x.keep(0, 0);
        fill(x, 1, 237);
        x.meet(0, 2);
        Check.due("three words, just room", x.bake(0, 0), 2);
        Check.due("full", x.words(), 240);
        Check.dueThrow("no word more", Check.STATE, () -> x.bake(0, 1));
        FridgeGossip y = new FridgeGossip();
        y.setNeed(0, 0, 2);
        y.put(0, 0);
        y.put(0, 8);
        y.plan(0, 0, 0);
        y.keep(0, 0);
        fill(y, 1, 238);
        Check.dueThrow("three words, room for two", Check.STATE, () -> y.bake(0, 0));
        Check.due("words", y.words(), 238);
        Check.due("clock", y.clock(0), 5);
        Check.due("still there", y.where(0, 0), 0);
        Check.due("still open", y.cake(0, 0), FridgeGossip.OPEN);
        Check.due("one word", y.drop(0, 0), 2);
        Check.due("and another", y.take(0, 0), 0);
        Check.due("full again", y.words(), 240);
    }
}
