import java.util.Arrays;

/** Fridges that write words about things, guests and cakes, meet, and learn what the other one knows. */
public final class FridgeGossip {
    public static final int NONE = -1;
    public static final int UNKNOWN = 0, OPEN = 1, DROPPED = 2, BAKED = 3;

    private static final int FRIDGES = 5;
    private static final int THINGS = 40;
    private static final int FOODS = 8;
    private static final int RECIPES = 6;
    private static final int GUESTS = 8;
    private static final int DAYS = 100;
    private static final int MOST_CAKES = 20;
    private static final int MOST_WORDS = 240;
    private static final int MOST_NEEDED = 3;
    private static final int EVERY_FOOD = (1 << FOODS) - 1;
    private static final int EVERY_FRIDGE = (1 << FRIDGES) - 1;

    private final WordChain chain = new WordChain();
    private final View view = new View();
    private final int[] clocks = new int[FRIDGES];
    private final int[][] needs = new int[RECIPES][FOODS];
    private final int[] recipeOf = new int[MOST_CAKES];
    private final int[] dayOf = new int[MOST_CAKES];
    private int cakeCount = 0;

    public FridgeGossip() {
    }

    // ---- things

    public int put(int fridge, int thing) throws IndexOutOfBoundsException, IllegalStateException {
        checkNumber(fridge, FRIDGES);
        checkNumber(thing, THINGS);
        lookAs(fridge);
        if (view.place[thing] == fridge) {
            throw new IllegalStateException("the fridge sees the thing in itself");
        }
        checkRoomFor(1);
        return write(fridge, Word.PUT, thing, NONE).stamp;
    }

    public int take(int fridge, int thing) throws IndexOutOfBoundsException, IllegalStateException {
        checkNumber(fridge, FRIDGES);
        checkNumber(thing, THINGS);
        lookAs(fridge);
        int place = view.place[thing];
        if (place == NONE) {
            throw new IllegalStateException("the fridge sees the thing nowhere");
        }
        checkRoomFor(1);
        write(fridge, Word.TAKE, thing, NONE);
        return place;
    }

    public int where(int fridge, int thing) throws IndexOutOfBoundsException {
        checkNumber(fridge, FRIDGES);
        checkNumber(thing, THINGS);
        lookAs(fridge);
        return view.place[thing];
    }

    public int whereByAll(int thing) throws IndexOutOfBoundsException {
        checkNumber(thing, THINGS);
        lookByAll();
        return view.place[thing];
    }

    public int count(int fridge, int food) throws IndexOutOfBoundsException {
        checkNumber(fridge, FRIDGES);
        checkNumber(food, FOODS);
        lookAs(fridge);
        return view.thingsSomewhere(food);
    }

    public int countByAll(int food) throws IndexOutOfBoundsException {
        checkNumber(food, FOODS);
        lookByAll();
        return view.thingsSomewhere(food);
    }

    public int claims(int fridge, int thing) throws IndexOutOfBoundsException {
        checkNumber(fridge, FRIDGES);
        checkNumber(thing, THINGS);
        lookAs(fridge);
        return view.wrongClaimers(thing);
    }

    // ---- meeting

    public int meet(int fridge, int other) throws IndexOutOfBoundsException, IllegalArgumentException {
        checkNumber(fridge, FRIDGES);
        checkNumber(other, FRIDGES);
        if (fridge == other) {
            throw new IllegalArgumentException("a fridge can't meet itself");
        }
        int later = Math.max(clocks[fridge], clocks[other]);
        clocks[fridge] = later;
        clocks[other] = later;
        return chain.shareAmong(1 << fridge | 1 << other);
    }

    public int words() {
        return chain.size;
    }

    public int known(int fridge) throws IndexOutOfBoundsException {
        checkNumber(fridge, FRIDGES);
        return chain.sizeKnownTo(1 << fridge);
    }

    public int clock(int fridge) throws IndexOutOfBoundsException {
        checkNumber(fridge, FRIDGES);
        return clocks[fridge];
    }

    // ---- guests and recipes

    public int guest(int fridge, int guest, int first, int last, int dislikes)
            throws IndexOutOfBoundsException, IllegalArgumentException, IllegalStateException {
        checkNumber(fridge, FRIDGES);
        checkNumber(guest, GUESTS);
        checkRange(first, 0, DAYS - 1);
        checkRange(last, first, DAYS - 1);
        checkRange(dislikes, 0, EVERY_FOOD);
        checkRoomFor(1);
        Word word = write(fridge, Word.GUEST, guest, NONE);
        word.firstDay = first;
        word.lastDay = last;
        word.dislikes = dislikes;
        return word.stamp;
    }

    public int guests(int fridge, int day) throws IndexOutOfBoundsException, IllegalArgumentException {
        checkNumber(fridge, FRIDGES);
        checkRange(day, 0, DAYS - 1);
        lookAs(fridge);
        return view.guestsOn(day);
    }

    public int setNeed(int recipe, int food, int things) throws IndexOutOfBoundsException, IllegalArgumentException {
        checkNumber(recipe, RECIPES);
        checkNumber(food, FOODS);
        checkRange(things, 0, MOST_NEEDED);
        int before = needs[recipe][food];
        needs[recipe][food] = things;
        return before;
    }

    // ---- cakes

    public int plan(int fridge, int recipe, int day)
            throws IndexOutOfBoundsException, IllegalArgumentException, IllegalStateException {
        checkNumber(fridge, FRIDGES);
        checkNumber(recipe, RECIPES);
        checkRange(day, 0, DAYS - 1);
        lookAs(fridge);
        if (isDisliked(recipe, day)) {
            throw new IllegalStateException("a guest of this day dislikes a food of the recipe");
        }
        if (cakeCount >= MOST_CAKES) {
            throw new IllegalStateException("there are as many cakes as there can be");
        }
        checkRoomFor(1);
        int cake = cakeCount;
        cakeCount++;
        recipeOf[cake] = recipe;
        dayOf[cake] = day;
        write(fridge, Word.PLAN, NONE, cake);
        return cake;
    }

    public int keep(int fridge, int cake) throws IndexOutOfBoundsException, IllegalStateException {
        checkNumber(fridge, FRIDGES);
        checkNumber(cake, cakeCount);
        lookAs(fridge);
        checkOpen(cake);
        int total = 0;
        for (int food = 0; food < FOODS; food++) {
            total += keepable(cake, food);
        }
        checkRoomFor(total);
        for (int food = 0; food < FOODS; food++) {
            writeKeeps(fridge, cake, food);
        }
        return total;
    }

    public int drop(int fridge, int cake) throws IndexOutOfBoundsException, IllegalStateException {
        checkNumber(fridge, FRIDGES);
        checkNumber(cake, cakeCount);
        lookAs(fridge);
        checkOpen(cake);
        checkRoomFor(1);
        write(fridge, Word.DROP, NONE, cake);
        return keptInAll(cake);
    }

    public int bake(int fridge, int cake) throws IndexOutOfBoundsException, IllegalStateException {
        checkNumber(fridge, FRIDGES);
        checkNumber(cake, cakeCount);
        lookAs(fridge);
        checkOpen(cake);
        for (int food = 0; food < FOODS; food++) {
            if (lacking(cake, food) > 0) {
                throw new IllegalStateException("the cake lacks something");
            }
        }
        int taken = keptInAll(cake);
        checkRoomFor(taken + 1);
        for (int thing = 0; thing < THINGS; thing++) {
            if (view.kept[thing] == cake) {
                write(fridge, Word.TAKE, thing, cake);
            }
        }
        write(fridge, Word.BAKE, NONE, cake);
        return taken;
    }

    public int cakes() {
        return cakeCount;
    }

    public int cake(int fridge, int cake) throws IndexOutOfBoundsException {
        checkNumber(fridge, FRIDGES);
        checkNumber(cake, cakeCount);
        lookAs(fridge);
        return view.state[cake];
    }

    public int keptFor(int fridge, int thing) throws IndexOutOfBoundsException {
        checkNumber(fridge, FRIDGES);
        checkNumber(thing, THINGS);
        lookAs(fridge);
        return view.kept[thing];
    }

    public int keptByAll(int thing) throws IndexOutOfBoundsException {
        checkNumber(thing, THINGS);
        lookByAll();
        return view.kept[thing];
    }

    public int lacks(int fridge, int cake, int food) throws IndexOutOfBoundsException {
        checkNumber(fridge, FRIDGES);
        checkNumber(cake, cakeCount);
        checkNumber(food, FOODS);
        lookAs(fridge);
        return view.state[cake] == OPEN ? lacking(cake, food) : 0;
    }

    public boolean isUnfit(int fridge, int cake) throws IndexOutOfBoundsException {
        checkNumber(fridge, FRIDGES);
        checkNumber(cake, cakeCount);
        lookAs(fridge);
        return view.state[cake] == OPEN && isDisliked(recipeOf[cake], dayOf[cake]);
    }

    public boolean isSpoilt(int fridge, int cake) throws IndexOutOfBoundsException {
        checkNumber(fridge, FRIDGES);
        checkNumber(cake, cakeCount);
        lookAs(fridge);
        return view.state[cake] == BAKED && (view.spoiltCakes & 1 << cake) != 0;
    }

    public int missing(int fridge, int food) throws IndexOutOfBoundsException {
        checkNumber(fridge, FRIDGES);
        checkNumber(food, FOODS);
        lookAs(fridge);
        int needed = 0;
        for (int cake = 0; cake < cakeCount; cake++) {
            if (view.state[cake] == OPEN) {
                needed += needs[recipeOf[cake]][food];
            }
        }
        return Math.max(0, needed - view.thingsSomewhere(food));
    }

    // ---- what the calls share; the view stays as it was looked at while a call writes

    private static void checkNumber(int number, int bound) {
        if (number < 0 || number >= bound) {
            throw new IndexOutOfBoundsException("there is none of this number");
        }
    }

    private static void checkRange(int value, int least, int most) {
        if (value < least || value > most) {
            throw new IllegalArgumentException("an argument is out of its range");
        }
    }

    private void checkRoomFor(int more) {
        if (chain.size + more > MOST_WORDS) {
            throw new IllegalStateException("there would be more words than there can be");
        }
    }

    private void checkOpen(int cake) {
        if (view.state[cake] != OPEN) {
            throw new IllegalStateException("the fridge does not see the cake open");
        }
    }

    private void lookAs(int fridge) {
        view.read(chain, 1 << fridge, dayOf);
    }

    private void lookByAll() {
        view.read(chain, EVERY_FRIDGE, dayOf);
    }

    private Word write(int fridge, int kind, int subject, int cake) {
        clocks[fridge]++;
        Word word = new Word(kind, clocks[fridge], fridge, subject, cake);
        chain.insert(word);
        return word;
    }

    private boolean isDisliked(int recipe, int day) {
        int disliked = view.dislikedOn(day);
        for (int food = 0; food < FOODS; food++) {
            if (needs[recipe][food] > 0 && (disliked & 1 << food) != 0) {
                return true;
            }
        }
        return false;
    }

    private int lacking(int cake, int food) {
        return Math.max(0, needs[recipeOf[cake]][food] - view.thingsKept(cake, food));
    }

    private int keptInAll(int cake) {
        int all = 0;
        for (int food = 0; food < FOODS; food++) {
            all += view.thingsKept(cake, food);
        }
        return all;
    }

    private int keepable(int cake, int food) {
        return Math.min(lacking(cake, food), view.thingsFree(food));
    }

    private void writeKeeps(int fridge, int cake, int food) {
        int left = keepable(cake, food);
        for (int thing = food; thing < THINGS && left > 0; thing += FOODS) {
            if (view.isFree(thing)) {
                write(fridge, Word.KEEP, thing, cake);
                left--;
            }
        }
    }

    /** What a fridge wrote once. */
    private static final class Word {
        static final int PUT = 0, TAKE = 1, GUEST = 2, PLAN = 3, KEEP = 4, DROP = 5, BAKE = 6;

        final int kind;
        final int stamp;
        final int writer;
        // the thing of a PUT, TAKE or KEEP, the guest of a GUEST
        final int subject;
        // the cake of a PLAN, KEEP, DROP or BAKE, or for which a TAKE was written
        final int cake;
        int firstDay = 0;
        int lastDay = 0;
        int dislikes = 0;
        // the bit f for each fridge f that knows this word
        int knownTo;
        Word next = null;

        Word(int kind, int stamp, int writer, int subject, int cake) {
            this.kind = kind;
            this.stamp = stamp;
            this.writer = writer;
            this.subject = subject;
            this.cake = cake;
            this.knownTo = 1 << writer;
        }

        boolean isLaterThan(Word other) {
            return stamp != other.stamp ? stamp > other.stamp : writer > other.writer;
        }
    }

    /** All words that were written, in the order of words. */
    private static final class WordChain {
        Word earliest = null;
        int size = 0;

        void insert(Word word) {
            Word before = null;
            Word after = earliest;
            while (after != null && word.isLaterThan(after)) {
                before = after;
                after = after.next;
            }
            word.next = after;
            if (before == null) {
                earliest = word;
            } else {
                before.next = word;
            }
            size++;
        }

        int sizeKnownTo(int fridges) {
            int known = 0;
            for (Word word = earliest; word != null; word = word.next) {
                if ((word.knownTo & fridges) != 0) {
                    known++;
                }
            }
            return known;
        }

        /** Makes all that one of these fridges knows known to each, and tells how many words were not. */
        int shareAmong(int fridges) {
            int shared = 0;
            for (Word word = earliest; word != null; word = word.next) {
                int knowing = word.knownTo & fridges;
                if (knowing != 0 && knowing != fridges) {
                    word.knownTo |= fridges;
                    shared++;
                }
            }
            return shared;
        }
    }

    /** What those words tell that one of some fridges knows. */
    private static final class View {
        final int[] place = new int[THINGS];
        // the bit f for each fridge f whose own latest PUT or TAKE of the thing is a PUT
        final int[] claimers = new int[THINGS];
        final int[] kept = new int[THINGS];
        final int[] firstDay = new int[GUESTS];
        final int[] lastDay = new int[GUESTS];
        final int[] dislikes = new int[GUESTS];
        final int[] state = new int[MOST_CAKES];
        final int[] planRank = new int[MOST_CAKES];
        int planCount = 0;
        int spoiltCakes = 0;

        void read(WordChain chain, int fridges, int[] dayOf) {
            forget();
            for (Word word = chain.earliest; word != null; word = word.next) {
                if ((word.knownTo & fridges) != 0) {
                    hear(word);
                }
            }
            // which cake a thing is kept for hangs on all guests and cakes, so this comes after them
            for (Word word = chain.earliest; word != null; word = word.next) {
                if (word.kind == Word.KEEP && (word.knownTo & fridges) != 0) {
                    hearKeep(word.subject, word.cake, dayOf);
                }
            }
        }

        private void forget() {
            Arrays.fill(place, NONE);
            Arrays.fill(claimers, 0);
            Arrays.fill(kept, NONE);
            // a guest who leaves ahead of day 0 comes on no day
            Arrays.fill(firstDay, 0);
            Arrays.fill(lastDay, -1);
            Arrays.fill(dislikes, 0);
            Arrays.fill(state, UNKNOWN);
            Arrays.fill(planRank, 0);
            planCount = 0;
            spoiltCakes = 0;
        }

        private void hear(Word word) {
            switch (word.kind) {
                case Word.PUT:
                    place[word.subject] = word.writer;
                    claimers[word.subject] |= 1 << word.writer;
                    break;
                case Word.TAKE:
                    hearTake(word);
                    break;
                case Word.GUEST:
                    firstDay[word.subject] = word.firstDay;
                    lastDay[word.subject] = word.lastDay;
                    dislikes[word.subject] = word.dislikes;
                    break;
                case Word.PLAN:
                    state[word.cake] = OPEN;
                    planRank[word.cake] = planCount;
                    planCount++;
                    break;
                case Word.DROP:
                    if (state[word.cake] == OPEN) {
                        state[word.cake] = DROPPED;
                    }
                    break;
                case Word.BAKE:
                    state[word.cake] = BAKED;
                    break;
                default:
                    break;
            }
        }

        private void hearTake(Word word) {
            // nowhere until now: the word ahead of this one is a TAKE, or there is none
            if (word.cake != NONE && place[word.subject] == NONE) {
                spoiltCakes |= 1 << word.cake;
            }
            place[word.subject] = NONE;
            claimers[word.subject] &= ~(1 << word.writer);
        }

        private void hearKeep(int thing, int cake, int[] dayOf) {
            if (place[thing] == NONE || state[cake] != OPEN) {
                return;
            }
            if (kept[thing] == NONE || isAhead(cake, kept[thing], dayOf)) {
                kept[thing] = cake;
            }
        }

        private boolean isAhead(int cake, int other, int[] dayOf) {
            int day = dayOf[cake];
            int otherDay = dayOf[other];
            int comers = Integer.bitCount(guestsOn(day));
            int otherComers = Integer.bitCount(guestsOn(otherDay));
            if (comers != otherComers) {
                return comers > otherComers;
            }
            return day != otherDay ? day < otherDay : planRank[cake] < planRank[other];
        }

        boolean comesOn(int guest, int day) {
            return firstDay[guest] <= day && day <= lastDay[guest];
        }

        int guestsOn(int day) {
            int comers = 0;
            for (int guest = 0; guest < GUESTS; guest++) {
                if (comesOn(guest, day)) {
                    comers |= 1 << guest;
                }
            }
            return comers;
        }

        int dislikedOn(int day) {
            int disliked = 0;
            for (int guest = 0; guest < GUESTS; guest++) {
                if (comesOn(guest, day)) {
                    disliked |= dislikes[guest];
                }
            }
            return disliked;
        }

        int wrongClaimers(int thing) {
            int owner = place[thing];
            return owner == NONE ? claimers[thing] : claimers[thing] & ~(1 << owner);
        }

        boolean isFree(int thing) {
            return place[thing] != NONE && kept[thing] == NONE;
        }

        int thingsSomewhere(int food) {
            int somewhere = 0;
            for (int thing = food; thing < THINGS; thing += FOODS) {
                if (place[thing] != NONE) {
                    somewhere++;
                }
            }
            return somewhere;
        }

        int thingsFree(int food) {
            int free = 0;
            for (int thing = food; thing < THINGS; thing += FOODS) {
                if (isFree(thing)) {
                    free++;
                }
            }
            return free;
        }

        int thingsKept(int cake, int food) {
            int keptThings = 0;
            for (int thing = food; thing < THINGS; thing += FOODS) {
                if (kept[thing] == cake) {
                    keptThings++;
                }
            }
            return keptThings;
        }
    }
}
