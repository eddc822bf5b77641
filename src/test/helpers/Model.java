import java.util.ArrayList;
import java.util.Comparator;
import java.util.HashSet;
import java.util.List;
import java.util.Set;

/** The document's definitions, written out one by one without regard to time, to compare answers with. */
public final class Model {
    enum Kind { PUT, TAKE, GUEST, PLAN, KEEP, DROP, BAKE }

    /** A word; numbers that its kind does not have are -1. The call tells which TAKE words went with a BAKE. */
    record Word(Kind kind, int stamp, int writer, int call, int thing, int cake, int guest, int first, int last,
            int dislikes) {
    }

    private static final Comparator<Word> ORDER = Comparator.comparingInt(Word::stamp).thenComparingInt(Word::writer);

    private final List<Word> all = new ArrayList<>();
    private final List<Set<Word>> knowledge = new ArrayList<>();
    private final int[] clocks = new int[5];
    private final int[][] needs = new int[6][8];
    private final List<int[]> planned = new ArrayList<>();
    private int calls = 0;

    public Model() {
        for (int f = 0; f < 5; f++) {
            knowledge.add(new HashSet<>());
        }
    }

    // ---- what some words tell

    private static Word latestOf(Set<Word> words, int thing) {
        return words.stream().filter(w -> w.thing == thing && (w.kind == Kind.PUT || w.kind == Kind.TAKE))
                .max(ORDER).orElse(null);
    }

    private static int place(Set<Word> words, int thing) {
        Word latest = latestOf(words, thing);
        return latest != null && latest.kind == Kind.PUT ? latest.writer : -1;
    }

    private static int somewhere(Set<Word> words, int food) {
        int n = 0;
        for (int thing = 0; thing < 40; thing++) {
            n += thing % 8 == food && place(words, thing) != -1 ? 1 : 0;
        }
        return n;
    }

    private static Word coming(Set<Word> words, int guest, int day) {
        Word word = words.stream().filter(w -> w.kind == Kind.GUEST && w.guest == guest).max(ORDER).orElse(null);
        return word != null && word.first <= day && day <= word.last ? word : null;
    }

    private static int comers(Set<Word> words, int day) {
        int set = 0;
        for (int guest = 0; guest < 8; guest++) {
            set += coming(words, guest, day) != null ? 1 << guest : 0;
        }
        return set;
    }

    private static Word ofCake(Set<Word> words, Kind kind, int cake) {
        return words.stream().filter(w -> w.kind == kind && w.cake == cake).min(ORDER).orElse(null);
    }

    private static boolean open(Set<Word> words, int cake) {
        return ofCake(words, Kind.PLAN, cake) != null && ofCake(words, Kind.DROP, cake) == null
                && ofCake(words, Kind.BAKE, cake) == null;
    }

    private int kept(Set<Word> words, int thing) {
        if (place(words, thing) == -1) {
            return -1;
        }
        Comparator<Integer> first = Comparator.comparingInt(c -> -Integer.bitCount(comers(words, planned.get(c)[1])));
        return words.stream().filter(w -> w.kind == Kind.KEEP && w.thing == thing).map(Word::cake).distinct()
                .filter(c -> open(words, c))
                .min(first.thenComparingInt(c -> planned.get(c)[1])
                        .thenComparing(c -> ofCake(words, Kind.PLAN, c), ORDER))
                .orElse(-1);
    }

    private List<Integer> keptThings(Set<Word> words, int cake, int food) {
        List<Integer> things = new ArrayList<>();
        for (int thing = 0; thing < 40; thing++) {
            if ((food < 0 || thing % 8 == food) && kept(words, thing) == cake) {
                things.add(thing);
            }
        }
        return things;
    }

    private int lacking(Set<Word> words, int cake, int food) {
        return Math.max(0, needs[planned.get(cake)[0]][food] - keptThings(words, cake, food).size());
    }

    private boolean disliked(Set<Word> words, int recipe, int day) {
        for (int guest = 0; guest < 8; guest++) {
            Word word = coming(words, guest, day);
            for (int food = 0; word != null && food < 8; food++) {
                if (needs[recipe][food] > 0 && (word.dislikes >> food & 1) == 1) {
                    return true;
                }
            }
        }
        return false;
    }

    private static boolean spoilt(Set<Word> words, int cake) {
        for (Word bake : words) {
            for (Word take : words) {
                if (bake.kind == Kind.BAKE && bake.cake == cake && take.kind == Kind.TAKE && take.call == bake.call) {
                    Word ahead = words.stream().filter(w -> w.thing == take.thing && ORDER.compare(w, take) < 0
                            && (w.kind == Kind.PUT || w.kind == Kind.TAKE)).max(ORDER).orElse(null);
                    if (ahead == null || ahead.kind == Kind.TAKE) {
                        return true;
                    }
                }
            }
        }
        return false;
    }

    // ---- checks and writing

    private static void index(boolean fine) {
        if (!fine) {
            throw new IndexOutOfBoundsException();
        }
    }

    private static void argument(boolean fine) {
        if (!fine) {
            throw new IllegalArgumentException();
        }
    }

    private static void state(boolean fine) {
        if (!fine) {
            throw new IllegalStateException();
        }
    }

    private static boolean in(int number, int bound) {
        return 0 <= number && number < bound;
    }

    private Set<Word> as(int fridge) {
        index(in(fridge, 5));
        return knowledge.get(fridge);
    }

    private Set<Word> byAll() {
        return new HashSet<>(all);
    }

    private int write(int fridge, Kind kind, int thing, int cake) {
        return write(fridge, new Word(kind, clocks[fridge] + 1, fridge, calls, thing, cake, -1, -1, -1, -1));
    }

    private int write(int fridge, Word word) {
        clocks[fridge]++;
        all.add(word);
        knowledge.get(fridge).add(word);
        return word.stamp;
    }

    private void room(int more) {
        state(all.size() + more <= 240);
    }

    // ---- the face

    public int put(int fridge, int thing) {
        Set<Word> words = as(fridge);
        index(in(thing, 40));
        state(place(words, thing) != fridge);
        room(1);
        calls++;
        return write(fridge, Kind.PUT, thing, -1);
    }

    public int take(int fridge, int thing) {
        Set<Word> words = as(fridge);
        index(in(thing, 40));
        int place = place(words, thing);
        state(place != -1);
        room(1);
        calls++;
        write(fridge, Kind.TAKE, thing, -1);
        return place;
    }

    public int where(int fridge, int thing) {
        index(in(thing, 40));
        return place(as(fridge), thing);
    }

    public int whereByAll(int thing) {
        index(in(thing, 40));
        return place(byAll(), thing);
    }

    public int count(int fridge, int food) {
        index(in(food, 8));
        return somewhere(as(fridge), food);
    }

    public int countByAll(int food) {
        index(in(food, 8));
        return somewhere(byAll(), food);
    }

    public int claims(int fridge, int thing) {
        Set<Word> words = as(fridge);
        index(in(thing, 40));
        int set = 0;
        for (int f = 0; f < 5; f++) {
            Set<Word> own = new HashSet<>(words);
            int writer = f;
            own.removeIf(w -> w.writer != writer);
            set += place(own, thing) == f && place(words, thing) != f ? 1 << f : 0;
        }
        return set;
    }

    public int meet(int fridge, int other) {
        Set<Word> one = as(fridge);
        Set<Word> two = as(other);
        argument(fridge != other);
        Set<Word> both = new HashSet<>(one);
        both.addAll(two);
        int justOne = both.size() - one.size() + both.size() - two.size();
        one.addAll(both);
        two.addAll(both);
        clocks[fridge] = Math.max(clocks[fridge], clocks[other]);
        clocks[other] = clocks[fridge];
        return justOne;
    }

    public int words() {
        return all.size();
    }

    public int known(int fridge) {
        return as(fridge).size();
    }

    public int clock(int fridge) {
        as(fridge);
        return clocks[fridge];
    }

    public int guest(int fridge, int guest, int first, int last, int dislikes) {
        as(fridge);
        index(in(guest, 8));
        argument(in(first, 100) && in(last, 100) && first <= last && in(dislikes, 256));
        room(1);
        calls++;
        return write(fridge,
                new Word(Kind.GUEST, clocks[fridge] + 1, fridge, calls, -1, -1, guest, first, last, dislikes));
    }

    public int guests(int fridge, int day) {
        Set<Word> words = as(fridge);
        argument(in(day, 100));
        return comers(words, day);
    }

    public int setNeed(int recipe, int food, int things) {
        index(in(recipe, 6) && in(food, 8));
        argument(in(things, 4));
        int before = needs[recipe][food];
        needs[recipe][food] = things;
        return before;
    }

    public int plan(int fridge, int recipe, int day) {
        Set<Word> words = as(fridge);
        index(in(recipe, 6));
        argument(in(day, 100));
        state(!disliked(words, recipe, day) && planned.size() < 20);
        room(1);
        calls++;
        planned.add(new int[] {recipe, day});
        write(fridge, Kind.PLAN, -1, planned.size() - 1);
        return planned.size() - 1;
    }

    private Set<Word> opened(int fridge, int cake) {
        Set<Word> words = as(fridge);
        index(in(cake, planned.size()));
        state(open(words, cake));
        return words;
    }

    public int keep(int fridge, int cake) {
        Set<Word> words = opened(fridge, cake);
        List<Integer> chosen = new ArrayList<>();
        for (int food = 0; food < 8; food++) {
            int lacking = lacking(words, cake, food);
            for (int thing = 0; thing < 40; thing++) {
                if (thing % 8 == food && lacking > 0 && place(words, thing) != -1 && kept(words, thing) == -1) {
                    chosen.add(thing);
                    lacking--;
                }
            }
        }
        room(chosen.size());
        calls++;
        for (int thing : chosen) {
            write(fridge, Kind.KEEP, thing, cake);
        }
        return chosen.size();
    }

    public int drop(int fridge, int cake) {
        Set<Word> words = opened(fridge, cake);
        int things = keptThings(words, cake, -1).size();
        room(1);
        calls++;
        write(fridge, Kind.DROP, -1, cake);
        return things;
    }

    public int bake(int fridge, int cake) {
        Set<Word> words = opened(fridge, cake);
        for (int food = 0; food < 8; food++) {
            state(lacking(words, cake, food) == 0);
        }
        List<Integer> things = keptThings(words, cake, -1);
        room(things.size() + 1);
        calls++;
        for (int thing : things) {
            write(fridge, Kind.TAKE, thing, cake);
        }
        write(fridge, Kind.BAKE, -1, cake);
        return things.size();
    }

    public int cakes() {
        return planned.size();
    }

    public int cake(int fridge, int cake) {
        Set<Word> words = as(fridge);
        index(in(cake, planned.size()));
        if (ofCake(words, Kind.PLAN, cake) == null) {
            return 0;
        }
        if (ofCake(words, Kind.BAKE, cake) != null) {
            return 3;
        }
        return ofCake(words, Kind.DROP, cake) != null ? 2 : 1;
    }

    public int keptFor(int fridge, int thing) {
        Set<Word> words = as(fridge);
        index(in(thing, 40));
        return kept(words, thing);
    }

    public int keptByAll(int thing) {
        index(in(thing, 40));
        return kept(byAll(), thing);
    }

    public int lacks(int fridge, int cake, int food) {
        Set<Word> words = as(fridge);
        index(in(cake, planned.size()) && in(food, 8));
        return open(words, cake) ? lacking(words, cake, food) : 0;
    }

    public int isUnfit(int fridge, int cake) {
        Set<Word> words = as(fridge);
        index(in(cake, planned.size()));
        return open(words, cake) && disliked(words, planned.get(cake)[0], planned.get(cake)[1]) ? 1 : 0;
    }

    public int isSpoilt(int fridge, int cake) {
        return cake(fridge, cake) == 3 && spoilt(as(fridge), cake) ? 1 : 0;
    }

    public int missing(int fridge, int food) {
        Set<Word> words = as(fridge);
        index(in(food, 8));
        int needed = 0;
        for (int cake = 0; cake < planned.size(); cake++) {
            needed += open(words, cake) ? needs[planned.get(cake)[0]][food] : 0;
        }
        return Math.max(0, needed - somewhere(words, food));
    }
}
