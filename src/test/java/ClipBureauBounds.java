import java.math.BigInteger;
import java.util.ArrayList;
import java.util.Arrays;
import java.util.HashMap;
import java.util.List;
import java.util.Map;
import java.util.function.IntFunction;

/**
 * Each sentence of the document that names a bound has a test of its own here, under its own words: the last value
 * that is allowed and the first that is not, on both sides, empty and full, and each refused call, which must leave
 * everything as it was. No object is used for more than 512 calls, as nothing is promised behind these.
 */
public final class ClipBureauBounds {
    private static final int LOW = Integer.MIN_VALUE;
    private static final int HIGH = Integer.MAX_VALUE;
    private static final String INDEX = "java.lang.IndexOutOfBoundsException";
    private static final String ARGUMENT = "java.lang.IllegalArgumentException";
    private static final String STATE = "java.lang.IllegalStateException";
    private static final int PARTS = 9;

    private static final Map<Made, List<String>> untouched = new HashMap<>();
    private static final Map<Made, Made> later = new HashMap<>();
    private static String sentence = "";
    private static int sentences = 0;
    private static int wrong = 0;

    /** Makes an object, always the same one. */
    private interface Made {
        ClipBureau object();
    }

    private interface Call {
        Object on(ClipBureau x);
    }

    private interface CallWith {
        Object on(ClipBureau x, int value);
    }

    private interface Try {
        Object answer();
    }

    private static final Made EMPTY = ClipBureau::new;
    private static final Made SOME = ClipBureauBounds::some;
    private static final Made FULL = ClipBureauBounds::full;
    private static final Made[] ALL = {EMPTY, SOME, FULL};

    public static void main(String[] args) {
        whatItIs();
        words();
        articles();
        rarities();
        clients();
        scores();
        scoresAndAge();
        fitArticles();
        bestArticle();
        prices();
        sending();
        whatWasSent();
        rounds();
        promises1To3();
        promise4();
        promise5();
        promise6();
        promise7();
        promise8();
        promise9();
        promise10();
        promise11();
        promise12();
        promise13();
        promise14();
        promise15();
        promise16();
        promise17();
        promise18();
        promise19();
        promise20();
        promise21();
        promise22();
        promise23();
        promise24();
        promise25();
        promise26();
        askingChangesNothing();
        System.out.println(sentences + " sentences, " + (wrong == 0 ? "all hold" : wrong + " answers are not as due"));
        if (wrong != 0) {
            System.exit(1);
        }
    }

    // ---- how it is tested

    private static void sentence(String words) {
        sentence = words;
        sentences++;
    }

    /** The answer, or the name of the exception, as text. */
    private static String tried(Try call) {
        try {
            return "" + call.answer();
        } catch (RuntimeException e) {
            return e.getClass().getName();
        }
    }

    private static void same(String what, Object due, String got) {
        if (!got.equals("" + due)) {
            wrong++;
            System.out.println(sentence + ": " + what + " answered " + got + ", due is " + due);
        }
    }

    private static void due(String what, Object due, Made made, Call call) {
        same(what, due, tried(() -> call.on(made.object())));
    }

    /**
     * The call throws this exception, and all that can be asked then or done next is as if it had not been; this also
     * two rounds later, when articles are older and some were sent.
     */
    private static void refused(String what, String exception, Made made, Call call) {
        refusedOnce(what, exception, made, call);
        Made then = later.computeIfAbsent(made, m -> () -> twoRoundsLater(m));
        refusedOnce(what + " two rounds later", exception, then, call);
    }

    private static void refusedOnce(String what, String exception, Made made, Call call) {
        due(what, exception, made, call);
        unchanged(what, made, call);
    }

    private static ClipBureau twoRoundsLater(Made made) {
        ClipBureau x = made.object();
        x.pass(2);
        return x;
    }

    /** All that can be asked behind the call, or done next, is as if it had not been. */
    private static void unchanged(String what, Made made, Call call) {
        List<String> before = untouched.computeIfAbsent(made, m -> everything(m, x -> 0));
        List<String> behind = everything(made, call);
        for (int part = 0; part < PARTS; part++) {
            same("part " + part + " of everything behind " + what, before.get(part), behind.get(part));
        }
    }

    /**
     * From lo to hi the call answers what is due; one below, one above and far out it is refused. Far out is tried only
     * if the near ones are as due, since a program that plays so many rounds would not come back.
     */
    private static void bounds(String what, String exception, Made made, int lo, int hi, CallWith call,
            IntFunction<Object> due) {
        for (int value = lo; value <= hi; value++) {
            int v = value;
            due(what + " " + v, due.apply(v), made, x -> call.on(x, v));
        }
        int before = wrong;
        for (int v : new int[] {lo - 1, hi + 1, LOW, HIGH}) {
            if (wrong == before) {
                refused(what + " " + v, exception, made, x -> call.on(x, v));
            }
        }
    }

    /** None is allowed. */
    private static void none(String what, String exception, Made made, CallWith call) {
        bounds(what, exception, made, 0, -1, call, v -> "");
    }

    private static String all(Object... answers) {
        StringBuilder s = new StringBuilder();
        for (Object answer : answers) {
            s.append(s.length() == 0 ? "" : " ").append(answer);
        }
        return s.toString();
    }

    private static String each(int count, IntFunction<Object> answer) {
        Object[] answers = new Object[count];
        for (int i = 0; i < count; i++) {
            answers[i] = answer.apply(i);
        }
        return all(answers);
    }

    /** What is answered when something else was done before. */
    private static Object behind(Object done, Object answer) {
        return answer;
    }

    private static Object again(int times, Try call) {
        Object last = "";
        for (int i = 0; i < times; i++) {
            last = call.answer();
        }
        return last;
    }

    /** All that an object answers behind a call, each part on an object of its own, to stay below 512 calls. */
    private static List<String> everything(Made made, Call call) {
        List<String> parts = new ArrayList<>();
        for (int part = 0; part < PARTS; part++) {
            ClipBureau x = made.object();
            tried(() -> call.on(x));
            int p = part;
            parts.add(tried(() -> part(p, x)));
        }
        return parts;
    }

    private static String part(int part, ClipBureau x) {
        int articles = x.count(0);
        int clients = x.count(1);
        switch (part) {
            case 0:
                return "" + x.digest();
            case 1:
                return each(articles, a -> each(4, what -> x.told(a, what)));
            case 2:
                return each(articles, a -> each(x.told(a, 0), place -> x.word(a, place)));
            case 3:
                return each(clients, c -> all(each(6, what -> x.about(c, what)),
                    each(x.about(c, 1), place -> x.stem(c, place)), each(articles, a -> x.score(c, a))));
            case 4:
                return each(clients, c -> each(x.about(c, 5), p -> x.fit(c, p)) + " "
                    + all(x.advise(c), x.foresee(1, c), x.foresee(2, c), x.foresee(30, c)));
            case 5:
                return all(each(7, x::count), each(20, x::rarity), x.until(), x.mean());
            case 6:
                return each(articles, a -> each(a + 1, b -> x.alike(a, b)));
            case 7:
                return each(40, w -> x.setStem(w, 0));
            default:
                return goOn(x, articles, clients);
        }
    }

    /** Calls that bring to light what is held, but not told. */
    private static String goOn(ClipBureau x, int articles, int clients) {
        String done = all(tried(x::print), tried(() -> x.client(5)), each(clients, x::send), x.pass(2),
            each(clients, c -> x.pay(c, 7)), each(clients, c -> tried(() -> x.want(c, 19))),
            each(clients, c -> tried(() -> x.drop(c, x.stem(c, 0)))));
        String written = each(articles, a -> tried(() -> x.write(a, 38)));
        return all(done, written, each(articles, a -> tried(() -> x.strike(a, 0))), x.until(), x.digest());
    }

    // ---- what it is tested on

    private static int[] row(int... words) {
        return words;
    }

    private static void article(ClipBureau x, int... words) {
        int article = x.print();
        for (int word : words) {
            x.write(article, word);
        }
    }

    private static ClipBureau bureau(int[]... articles) {
        ClipBureau x = new ClipBureau();
        for (int[] words : articles) {
            article(x, words);
        }
        return x;
    }

    private static ClipBureau client(ClipBureau x, int coins, int bar, int... stems) {
        int client = x.client(coins);
        x.setBar(client, bar);
        for (int stem : stems) {
            x.want(client, stem);
        }
        return x;
    }

    /** So many articles: the first has these words, the others have none. */
    private static ClipBureau oneOf(int articles, int... words) {
        ClipBureau x = bureau(words);
        again(articles - 1, x::print);
        return x;
    }

    /** So many articles with the same words. */
    private static ClipBureau alikeOnes(int articles, int... words) {
        ClipBureau x = new ClipBureau();
        for (int i = 0; i < articles; i++) {
            article(x, words);
        }
        return x;
    }

    private static int[] times(int count, int word) {
        int[] words = new int[count];
        Arrays.fill(words, word);
        return words;
    }

    /** Three articles, the last without words, and two clients; a round has gone by, and something was sent. */
    private static ClipBureau some() {
        ClipBureau x = bureau(row(0, 1, 2, 39), row(2, 2, 4), row());
        client(x, 50, 10, 0, 1);
        client(x, 2, 20, 19, 3);
        x.setStem(5, 7);
        x.pass(1);
        return x;
    }

    /** As many of everything as there may be. */
    private static ClipBureau full() {
        ClipBureau x = new ClipBureau();
        for (int article = 0; article < 16; article++) {
            x.print();
            for (int place = 0; place < 12; place++) {
                x.write(article, (5 * article + 3 * place) % 40);
            }
        }
        for (int client = 0; client < 6; client++) {
            client(x, 100 * client, 10 * client, client, client + 2, client + 5, client + 9, client + 14);
        }
        return x;
    }

    private static ClipBureau sixteen() {
        return oneOf(16);
    }

    private static ClipBureau sixClients() {
        ClipBureau x = new ClipBureau();
        again(6, () -> x.client(9));
        return x;
    }

    /** An article of twelve different words between two without words. */
    private static ClipBureau twelveWords() {
        return bureau(row(), row(39, 1, 2, 3, 4, 5, 6, 7, 8, 9, 10, 0), row());
    }

    /** A client that wants five stems between two that want none. */
    private static ClipBureau fiveStems() {
        ClipBureau x = new ClipBureau();
        x.client(1);
        client(x, 1, 20, 19, 0, 7, 3, 11);
        x.client(1);
        return x;
    }

    // ---- what it is

    private static void whatItIs() {
        sentence("An object is used for at most 512 calls: the 512th is answered");
        due("511 times 30 rounds", 15330, EMPTY, x -> {
            again(511, () -> x.pass(30));
            return x.count(4);
        });
        due("an age of 510 times 30 rounds", 15300, EMPTY, x -> {
            x.print();
            again(510, () -> x.pass(30));
            return x.told(0, 2);
        });
        due("a score at this age", 0, EMPTY, x -> {
            client(x, 0, 0);
            x.print();
            again(508, () -> x.pass(30));
            return x.score(0, 0);
        });
        due("511 refused ones", 0, EMPTY, x -> {
            again(511, () -> tried(() -> x.pass(0)));
            return x.print();
        });
        due("words in and out", 1, EMPTY, x -> {
            x.print();
            again(255, () -> all(x.write(0, 39), x.strike(0, 0)));
            return x.write(0, 39);
        });
        due("stems in and out", 1, EMPTY, x -> {
            x.client(0);
            again(255, () -> all(x.want(0, 19), x.drop(0, 19)));
            return x.want(0, 19);
        });
        due("coins", 9999, EMPTY, x -> {
            x.client(999);
            again(510, () -> x.pay(0, 999));
            return x.pay(0, 999);
        });
        due("what would be", "-1 0", EMPTY, x -> {
            x.client(999);
            x.print();
            again(254, () -> all(x.foresee(30, 0), x.advise(0)));
            return all(x.until(), x.count(4));
        });
    }

    // ---- terms

    private static void words() {
        sentence("Words are numbered 0 to 39; each has a stem, 0 to 19 (half of its number, cut, at first)");
        for (int word = 0; word < 40; word++) {
            int w = word;
            due("rarities with word " + w, each(20, stem -> stem == w / 2 ? 10 : 20), EMPTY, x -> {
                article(x, w);
                return each(20, x::rarity);
            });
        }
        sentence("An article has a stem as often as there are words with it among its words");
        due("by words of one stem", 20, EMPTY, x -> client(bureau(row(0, 1)), 0, 20, 0).score(0, 0));
        due("by a stem set later", 30, EMPTY, x -> {
            client(bureauInto(x, row(0, 39, 38)), 0, 20, 0);
            x.setStem(39, 0);
            x.setStem(38, 0);
            return x.score(0, 0);
        });
        due("twelve times", 100, EMPTY, x -> bureau(times(12, 7), times(12, 6)).alike(0, 1));
        due("eleven times of twelve", 91, EMPTY, x -> {
            article(x, times(12, 7));
            article(x, times(11, 6));
            x.write(1, 0);
            return x.alike(0, 1);
        });
        due("no more behind a strike", "10 0 20", EMPTY, x -> {
            client(bureauInto(x, row(0)), 0, 20, 0);
            int before = x.score(0, 0);
            x.strike(0, 0);
            return all(before, x.score(0, 0), x.rarity(0));
        });
    }

    private static ClipBureau bureauInto(ClipBureau x, int[]... articles) {
        for (int[] words : articles) {
            article(x, words);
        }
        return x;
    }

    private static void articles() {
        sentence("Articles. There are at most 16");
        due("sixteen and one", each(16, i -> i) + " " + STATE + " 16", EMPTY,
            x -> all(each(16, i -> x.print()), tried(x::print), x.count(0)));
        sentence("numbered from 0 in the order of their printing");
        bounds("the one that is written to", INDEX, ClipBureauBounds::sixteen, 0, 15,
            (x, v) -> all(x.write(v, 3), each(16, a -> x.told(a, 0))), v -> "1 " + each(16, a -> a == v ? 1 : 0));
        sentence("each has at most 12 words, in their order (none, at first)");
        due("none at first", "0 0 " + INDEX, EMPTY, x -> all(x.print(), x.told(0, 0), tried(() -> x.word(0, 0))));
        String twelve = all(each(12, i -> i + 1), STATE, each(12, i -> 39 - 3 * i));
        due("twelve and one", twelve, EMPTY, x -> {
            x.print();
            return all(each(12, i -> x.write(0, 39 - 3 * i)), tried(() -> x.write(0, 3)), each(12, p -> x.word(0, p)));
        });
        due("sixteen of twelve", 192, FULL, x -> x.count(2));
        due("each twelve", each(16, a -> 12), FULL, x -> each(16, a -> x.told(a, 0)));
        sentence("and an age in rounds (0, at first)");
        due("at first, and behind rounds", "0 1 31 0 31", EMPTY, x -> {
            x.print();
            Object young = x.told(0, 2);
            x.pass(1);
            Object one = x.told(0, 2);
            x.pass(30);
            x.print();
            return all(young, one, x.told(0, 2), x.told(1, 2), x.count(4));
        });
    }

    private static void rarities() {
        sentence("Rarity of a stem: 10 * (articles and 1) / (articles that have it and 1)");
        due("no articles", 10, EMPTY, x -> x.rarity(0));
        due("one that has it not", 20, EMPTY, x -> bureau(row(2)).rarity(0));
        due("one that has it", 10, EMPTY, x -> bureau(row(1)).rarity(0));
        due("twelve times in one is once", 85, EMPTY, x -> oneOf(16, times(12, 0)).rarity(0));
        due("all sixteen", 10, EMPTY, x -> alikeOnes(16, 38).rarity(19));
        for (int having = 0; having <= 16; having++) {
            int h = having;
            due(h + " of sixteen", 170 / (h + 1), EMPTY, x -> {
                again(16, x::print);
                for (int a = 0; a < h; a++) {
                    x.write(a, 39);
                }
                return x.rarity(19);
            });
        }
        sentence("all articles are counted, also those without words");
        due("sixteen without words", 170, ClipBureauBounds::sixteen, x -> x.rarity(0));
        for (int articles = 1; articles <= 16; articles++) {
            int n = articles;
            due("one of " + n, 10 * (n + 1) / 2, EMPTY, x -> oneOf(n, 0).rarity(0));
        }
        sentence("All numbers are whole, and / is cut towards 0");
        due("40 / 3", 13, EMPTY, x -> bureau(row(0), row(0), row()).rarity(0));
        due("50 / 3", 16, EMPTY, x -> bureau(row(0), row(0), row(), row()).rarity(0));
        due("170 / 9", 18, EMPTY, x -> {
            again(8, () -> bureauInto(x, row(0)));
            again(8, x::print);
            return x.rarity(0);
        });
    }

    private static void clients() {
        sentence("Clients. There are at most 6, numbered likewise");
        due("six and one", "0 1 2 3 4 5 " + STATE + " 6", EMPTY,
            x -> all(each(6, i -> x.client(i)), tried(() -> x.client(0)), x.count(1)));
        due("each its own", "0 1 2 3 4 5", EMPTY, x -> {
            each(6, i -> x.client(i));
            return each(6, c -> x.about(c, 0));
        });
        sentence("wants up to 5 different stems, in the order in which they were told");
        due("five", "19 0 7 3 11 5", ClipBureauBounds::fiveStems, x -> all(each(5, p -> x.stem(1, p)), x.about(1, 1)));
        due("a sixth", STATE, ClipBureauBounds::fiveStems, x -> x.want(1, 4));
        due("none at first", "0 " + INDEX, ClipBureauBounds::fiveStems,
            x -> all(x.about(0, 1), tried(() -> x.stem(0, 0))));
        due("five of each of six", "5 5 5 5 5 5", FULL, x -> each(6, c -> x.about(c, 1)));
        sentence("has been sent articles (none, at first)");
        due("none at first", "0 0", EMPTY, x -> {
            x.print();
            x.client(999);
            return all(x.about(0, 3), x.about(0, 4));
        });
        due("none to a late client", "1 0", EMPTY, x -> {
            client(bureauInto(x, row(0)), 9, 0);
            x.send(0);
            client(x, 9, 0);
            return all(x.about(0, 3), x.about(1, 3));
        });
        sentence("and a bar, 0 to 999 (20, at first)");
        due("at first", "20 20 20 20 20 20", ClipBureauBounds::sixClients, x -> each(6, c -> x.about(c, 2)));
        due("a score of 20 is fit at first", "20 1", EMPTY, x -> {
            x.client(0);
            x.want(0, 0);
            bureauInto(x, row(0, 0));
            return all(x.score(0, 0), x.about(0, 5));
        });
        due("a score of 19 is not", "19 0", EMPTY, x -> {
            x.client(0);
            x.want(0, 0);
            bureauInto(x, row(0), row(), row(), row());
            x.pass(2);
            return all(x.score(0, 0), x.about(0, 5));
        });
    }

    private static void scores() {
        sentence("Score: how often the article has it, at most 3 times, times its rarity");
        for (int often = 0; often <= 12; often++) {
            int n = often;
            due(n + " times", 10 * Math.min(n, 3), EMPTY, x -> client(bureau(times(n, 38)), 0, 20, 19).score(0, 0));
        }
        due("each of two stems for itself", 60, EMPTY,
            x -> client(bureau(row(0, 0, 0, 0, 2, 2, 2, 2)), 0, 20, 0, 1, 2).score(0, 0));
        due("four of them three times, and the half", 1530, EMPTY,
            x -> client(oneOf(16, 0, 0, 0, 2, 2, 2, 4, 4, 4, 38, 38, 38), 0, 20, 0, 1, 2, 19).score(0, 0));
        sentence("for each stem that the client wants: ... added");
        due("none is wanted", 0, EMPTY, x -> client(bureau(row(0, 2)), 0, 20).score(0, 0));
        due("no words", 0, EMPTY, x -> client(bureau(row()), 0, 20, 0, 1).score(0, 0));
        due("what it does not want", 0, EMPTY, x -> client(bureau(row(2)), 0, 20, 0).score(0, 0));
        sentence("if it has all of the stems that the client wants, and these are two or more, half of that more");
        int[] due = {0, 10, 30, 45, 60, 75};
        for (int wanted = 0; wanted <= 5; wanted++) {
            int n = wanted;
            due("all of " + n, due[n], EMPTY, x -> {
                client(bureauInto(x, row(0, 2, 4, 6, 8)), 0, 20);
                again(n, () -> x.want(0, x.about(0, 1)));
                return x.score(0, 0);
            });
            for (int without = 0; without < n; without++) {
                int w = without;
                due("all of " + n + " but place " + w, 10 * (n - 1), EMPTY, x -> {
                    client(bureauInto(x, row(0, 2, 4, 6, 8)), 0, 20);
                    each(n, i -> x.want(0, i == w ? 19 : i));
                    return x.score(0, 0);
                });
            }
        }
        due("both, though one word stands between", 30, EMPTY,
            x -> client(bureau(row(38, 5, 0)), 0, 20, 0, 19).score(0, 0));
        due("one stem often is one stem", 30, EMPTY, x -> client(bureau(row(0, 0, 1)), 0, 20, 0).score(0, 0));
        due("a stem dropped brings the half", "10 20 30", EMPTY, x -> {
            client(bureauInto(x, row(0, 2)), 0, 20, 9, 1);
            int one = x.score(0, 0);
            x.want(0, 0);
            int two = x.score(0, 0);
            x.drop(0, 9);
            return all(one, two, x.score(0, 0));
        });
        sentence("half (cut)");
        due("half of 25", 37, EMPTY, x -> client(bureau(row(0, 2), row(2)), 0, 20, 0, 1).score(0, 0));
        due("half of 33", 49, EMPTY, x -> client(bureau(row(0, 2), row(2), row()), 0, 20, 0, 1).score(0, 0));
        due("half of 26", 39, EMPTY, x -> client(bureau(row(0, 2), row(0, 2), row()), 0, 20, 0, 1).score(0, 0));
    }

    private static void scoresAndAge() {
        sentence("behind that less 3 for each round of its age");
        due("37 of these 12 the half, then rounds", "37 34 31", EMPTY, x -> {
            client(bureauInto(x, row(0, 2), row(2)), 0, 999, 0, 1);
            return all(x.score(0, 0), behind(x.pass(1), x.score(0, 0)), behind(x.pass(1), x.score(0, 0)));
        });
        due("its own age", "14 20", EMPTY, x -> {
            client(bureauInto(x, row(0, 0)), 0, 999, 0);
            x.pass(2);
            article(x, 0, 0);
            return all(x.score(0, 0), x.score(0, 1));
        });
        due("a greatest one behind 30 rounds", 1440, EMPTY, x -> {
            client(bureauInto(x, row(0, 0, 0, 2, 2, 2, 4, 4, 4, 38, 38, 38)), 0, 999, 0, 1, 2, 19);
            again(15, x::print);
            x.pass(30);
            return x.score(0, 0);
        });
        sentence("at least 0 in the end");
        due("10, by rounds", "10 7 4 1 0 0", EMPTY, x -> {
            client(bureauInto(x, row(0)), 0, 999, 0);
            return all(x.score(0, 0), each(5, i -> behind(x.pass(1), x.score(0, 0))));
        });
        due("30 behind nine, ten and eleven rounds", "3 0 0", EMPTY, x -> {
            client(bureauInto(x, row(0, 0, 0)), 0, 999, 0);
            x.pass(8);
            return each(3, i -> behind(x.pass(1), x.score(0, 0)));
        });
        due("nothing behind a round", 0, EMPTY, x -> {
            client(bureauInto(x, row()), 0, 999);
            x.pass(1);
            return x.score(0, 0);
        });
    }

    private static void fitArticles() {
        sentence("Fit articles of a client: those that ... score its bar or more");
        due("a score of 10 at bars of 9, 10, 11", "1 1 0", EMPTY, x -> {
            client(bureauInto(x, row(0)), 0, 9, 0);
            return all(x.about(0, 5), behind(x.setBar(0, 10), x.about(0, 5)), behind(x.setBar(0, 11), x.about(0, 5)));
        });
        due("sent at the bar, not above the score", "-1 0", EMPTY, x -> {
            client(bureauInto(x, row(0)), 9, 11, 0);
            int above = x.send(0);
            x.setBar(0, 10);
            return all(above, x.send(0));
        });
        due("scores of 999 and 996 at a bar of 999", "999 1 996 0", EMPTY, x -> {
            client(bureauInto(x, row(0, 0, 0, 2, 2, 2, 4, 4, 4, 6, 6, 6)), 0, 999, 0, 1, 2, 3, 19);
            again(15, x::print);
            x.pass(7);
            String at = all(x.score(0, 0), x.about(0, 5));
            x.pass(1);
            return all(at, x.score(0, 0), x.about(0, 5));
        });
        due("a score above 999", "1530 1 0", EMPTY, x -> {
            client(bureauInto(x, row(0, 0, 0, 2, 2, 2, 4, 4, 4, 6, 6, 6)), 0, 999, 0, 1, 2, 3);
            again(15, x::print);
            return all(x.score(0, 0), x.about(0, 5), x.fit(0, 0));
        });
        due("scores of 1 and 0 at a bar of 1", "1 1 0 0", EMPTY, x -> {
            client(bureauInto(x, row(0)), 0, 1, 0);
            x.pass(3);
            String one = all(x.score(0, 0), x.about(0, 5));
            x.pass(1);
            return all(one, x.score(0, 0), x.about(0, 5));
        });
        sentence("(so with a bar of 0 all that were not sent)");
        due("sixteen without words", "16 " + each(16, a -> a), ClipBureauBounds::sixteen, x -> {
            client(x, 9, 0);
            return all(x.about(0, 5), each(16, p -> x.fit(0, p)));
        });
        due("but the sent ones", "15 14 13 12 12", ClipBureauBounds::sixteen, x -> {
            client(x, 8, 0);
            return each(5, i -> behind(x.send(0), x.about(0, 5)));
        });
        due("old ones, too", "3 0", EMPTY, x -> {
            client(bureauInto(x, row(0), row(2), row()), 1, 0, 0);
            x.pass(30);
            return all(x.about(0, 5), x.score(0, 0));
        });
    }

    private static void bestArticle() {
        sentence("The best one is that with the greatest score");
        due("the last", 15, EMPTY, x -> {
            again(15, () -> bureauInto(x, row(0)));
            article(x, 0, 0);
            client(x, 99, 0, 0);
            return x.send(0);
        });
        due("by one point", "11 10 0", EMPTY, x -> {
            client(x, 99, 999, 0);
            article(x, 0, 1);
            x.pass(3);
            article(x, 0);
            x.setBar(0, 0);
            return all(x.score(0, 0), x.score(0, 1), x.send(0));
        });
        due("by two points, the greater number", "8 10 1", EMPTY, x -> {
            client(x, 99, 999, 0);
            article(x, 0, 1);
            x.pass(4);
            article(x, 0);
            x.setBar(0, 0);
            return all(x.score(0, 0), x.score(0, 1), x.send(0));
        });
        sentence("of several the one with the smallest number");
        due("all sixteen", each(16, a -> a) + " -1", EMPTY, x -> {
            again(16, () -> bureauInto(x, row(0)));
            client(x, 99, 0, 0);
            return each(17, i -> x.send(0));
        });
        due("the last two", "1 2 0", EMPTY, x -> {
            client(bureauInto(x, row(0), row(0, 1), row(1, 0)), 99, 0, 0);
            return each(3, i -> x.send(0));
        });
    }

    private static void prices() {
        sentence("Price of an article for a client: 2 and a twentieth (cut) of its score");
        due("0", "0 2", EMPTY, x -> priced(client(oneOf(1), 99, 0), 0));
        due("19", "19 2", EMPTY, x -> priced(client(oneOf(4, 0), 99, 0, 0), 2));
        due("20", "20 3", EMPTY, x -> priced(client(oneOf(3, 0), 99, 0, 0), 0));
        due("39", "39 3", EMPTY, x -> priced(client(bureau(row(0, 0, 0), row(0), row()), 99, 0, 0), 0));
        due("40", "40 4", EMPTY, x -> priced(client(oneOf(3, 0, 0), 99, 0, 0), 0));
        due("59", "59 4", EMPTY, x -> priced(client(oneOf(12, 0), 99, 0, 0), 2));
        due("60", "60 5", EMPTY, x -> priced(client(oneOf(3, 0, 0, 0), 99, 0, 0), 0));
        due("the greatest", "1530 78", EMPTY,
            x -> priced(client(oneOf(16, 0, 0, 0, 2, 2, 2, 4, 4, 4, 6, 6, 6), 99, 0, 0, 1, 2, 3), 0));
    }

    /** The score of article 0 behind so many rounds, in which nothing is sent, and what is paid for it then. */
    private static String priced(ClipBureau x, int rounds) {
        x.setBar(0, 999);
        for (int i = 0; i < rounds; i++) {
            x.pass(1);
        }
        x.setBar(0, 0);
        int score = x.score(0, 0);
        return all(score, x.send(0) == 0 ? x.about(0, 4) : -1);
    }

    private static void sending() {
        sentence("Sending to a client: the best one of its fit articles, if there is one");
        due("no articles", "-1 9 0", EMPTY, x -> all(client(x, 9, 0).send(0), x.about(0, 0), x.count(5)));
        due("none is fit", "-1 9 0", EMPTY,
            x -> all(client(bureauInto(x, row(0)), 9, 11, 0).send(0), x.about(0, 0), x.count(5)));
        due("all were sent", "0 -1 7 1", EMPTY,
            x -> all(client(bureauInto(x, row(0)), 9, 0, 0).send(0), x.send(0), x.about(0, 0), x.count(5)));
        sentence("and the client has so many coins as its price: it pays, and the article was sent to it");
        for (int coins = 0; coins <= 4; coins++) {
            int n = coins;
            due("a price of 3, coins " + n, n < 3 ? all(-1, n, 0, 0, 0) : all(0, n - 3, 1, 3, 1), EMPTY, x -> {
                client(bureauInto(x, row(0, 0)), n, 0, 0);
                return all(x.send(0), x.about(0, 0), x.about(0, 3), x.about(0, 4), x.told(0, 3));
            });
            due("a price of 2, coins " + n, n < 2 ? all(-1, n, 0) : all(0, n - 2, 1), EMPTY, x -> {
                client(bureauInto(x, row()), n, 0);
                return all(x.send(0), x.about(0, 0), x.told(0, 3));
            });
        }
        sentence("Otherwise nothing is sent (also if a cheaper one would fit)");
        due("prices of 4, 2 and 2, coins 3", "40 0 0 3 -1 3 0 0 0 0", EMPTY, x -> {
            client(bureauInto(x, row(0, 0), row(), row()), 3, 0, 0);
            return all(each(3, a -> x.score(0, a)), x.about(0, 5), x.send(0), x.about(0, 0), x.about(0, 3),
                x.told(1, 3), x.told(2, 3), x.count(6));
        });
        due("the same in rounds", "0 2 0", EMPTY, x -> {
            client(bureauInto(x, row(0, 0, 0, 2, 2, 2), row(2)), 2, 0, 0, 1);
            return all(x.pass(1), x.about(0, 0), x.told(1, 3));
        });
    }

    private static void whatWasSent() {
        sentence("what was sent stays so, whatever is written later");
        Made sent = () -> {
            ClipBureau x = client(bureau(row(0, 0)), 99, 0, 0);
            x.send(0);
            return x;
        };
        staysSent("nothing", sent, x -> 0);
        staysSent("a word written", sent, x -> x.write(0, 39));
        staysSent("twelve words", sent, x -> again(10, () -> x.write(0, 0)));
        staysSent("a word struck out", sent, x -> x.strike(0, 1));
        staysSent("all words struck out", sent, x -> all(x.strike(0, 0), x.strike(0, 0)));
        staysSent("words struck out and written", sent,
            x -> all(x.strike(0, 0), x.strike(0, 0), x.write(0, 0), x.write(0, 0)));
        staysSent("a stem set", sent, x -> x.setStem(0, 7));
        staysSent("a stem wanted", sent, x -> x.want(0, 1));
        staysSent("a stem dropped", sent, x -> x.drop(0, 0));
        staysSent("a bar set", sent, x -> all(x.setBar(0, 999), x.setBar(0, 0)));
        staysSent("coins paid", sent, x -> x.pay(0, 999));
        staysSent("rounds", sent, x -> x.pass(30));
        staysSent("more articles", sent, x -> all(x.print(), x.write(1, 39), x.setBar(0, 1)));
        staysSent("another client", sent, x -> x.client(9));
    }

    private static void staysSent(String what, Made sent, Call later) {
        due(what, "-1 0 1 1 3 1 3", sent, x -> {
            later.on(x);
            return all(x.send(0), x.about(0, 5), x.told(0, 3), x.about(0, 3), x.about(0, 4), x.count(5), x.count(6));
        });
    }

    private static void rounds() {
        sentence("A round: clients, by numbers, are sent to, each twice in a row");
        for (int articles = 0; articles <= 16; articles++) {
            int n = articles;
            due(n + " fit articles", all(Math.min(n, 2), Math.min(n, 2), 99 - 2 * Math.min(n, 2)), EMPTY, x -> {
                again(n, x::print);
                client(x, 99, 0);
                return all(x.pass(1), x.about(0, 3), x.about(0, 0));
            });
        }
        due("all six", "12 2 2 2 2 2 2", ClipBureauBounds::sixteen, x -> {
            again(6, () -> client(x, 4, 0));
            return all(x.pass(1), each(6, c -> x.about(c, 3)));
        });
        due("coins for one", "1 1 0", ClipBureauBounds::sixteen, x -> {
            client(x, 3, 0);
            return all(x.pass(1), x.about(0, 0), x.pass(1));
        });
        due("one without coins stops none of the others", "4 2 0 2", ClipBureauBounds::sixteen, x -> {
            client(client(client(x, 9, 0), 1, 0), 9, 0);
            return all(x.pass(1), x.about(0, 3), x.about(1, 3), x.about(2, 3));
        });
        sentence("then all articles are a round older");
        due("the first and the last, without words, too", each(16, a -> 1), ClipBureauBounds::sixteen, x -> {
            x.pass(1);
            return each(16, a -> x.told(a, 2));
        });
        due("both are sent at their first score", "2 6 17", EMPTY, x -> {
            client(bureauInto(x, row(0, 0), row(0, 0)), 99, 20, 0);
            return all(x.pass(1), x.about(0, 4), x.score(0, 1));
        });
        due("the third is older", "2 0", EMPTY, x -> {
            client(bureauInto(x, row(0, 0), row(0, 0), row(0, 0)), 99, 20, 0);
            return all(x.pass(1), x.pass(1));
        });
        due("the last client is sent to before, too", "6 6", EMPTY, x -> {
            bureauInto(x, row(0, 0));
            again(6, () -> client(x, 3, 20, 0));
            return all(x.pass(1), x.told(0, 3));
        });
        due("sending alone makes none older", "0 0 0", EMPTY, x -> {
            client(bureauInto(x, row(0, 0)), 99, 20, 0);
            return all(x.send(0), x.told(0, 2), x.count(4));
        });
    }

    // ---- promises 1 to 5

    private static void promises1To3() {
        sentence("1: Creates a bureau without articles and clients");
        due("counts", "0 0 0 0 0 0 0", EMPTY, x -> each(7, x::count));
        due("what would be", "-1 0.0", EMPTY, x -> all(x.until(), x.mean()));
        due("no article", INDEX, EMPTY, x -> x.told(0, 0));
        due("no client", INDEX, EMPTY, x -> x.about(0, 0));
        due("not another's", "0 0 0 19", EMPTY, x -> {
            full().setStem(39, 0);
            return all(x.count(0), x.count(1), x.count(2), x.setStem(39, 0));
        });
        for (Made made : ALL) {
            sentence("2: IndexOutOfBoundsException if word is not 0 to 39");
            bounds("the stem before of word", INDEX, made, 0, 39, (x, v) -> x.setStem(v, 0),
                v -> made == SOME && v == 5 ? 7 : v / 2);
            sentence("2: or stem is not 0 to 19");
            bounds("the stem before, and then", INDEX, made, 0, 19, (x, v) -> all(x.setStem(39, v), x.setStem(39, 0)),
                v -> "19 " + v);
            bounds("the stem before of the first, and then", INDEX, made, 0, 19,
                (x, v) -> all(x.setStem(0, v), x.setStem(0, 7)), v -> "0 " + v);
            refused("both are wrong", INDEX, made, x -> x.setStem(40, 20));
            refused("both are wrong below", INDEX, made, x -> x.setStem(-1, -1));
        }
        sentence("2: Returns the one before");
        due("to the same", "0 0 0", EMPTY, x -> all(x.setStem(0, 0), x.setStem(1, 0), x.setStem(1, 0)));
        due("the last one set", "19 0 19", EMPTY, x -> all(x.setStem(39, 0), x.setStem(39, 19), x.setStem(39, 19)));
        sentence("2: its stem from now on, in what was written, too");
        due("none has the old one", "10 20 20 10", EMPTY, x -> {
            article(x, times(12, 39));
            String before = all(x.rarity(19), x.rarity(0));
            x.setStem(39, 0);
            return all(before, x.rarity(19), x.rarity(0));
        });
        sentence("3: Returns the number of a new article");
        due("the first", 0, EMPTY, ClipBureau::print);
        due("the next", 3, SOME, ClipBureau::print);
        due("the last", 15, () -> oneOf(15), ClipBureau::print);
        sentence("3: IllegalStateException if there are 16");
        refused("a 17th", STATE, FULL, ClipBureau::print);
        refused("a 17th of empty ones", STATE, ClipBureauBounds::sixteen, ClipBureau::print);
    }

    private static void promise4() {
        Made sixteen = ClipBureauBounds::sixteen;
        Made eleven = () -> bureau(row(), times(11, 0));
        sentence("4: IndexOutOfBoundsException if there is no such article");
        bounds("of three", INDEX, SOME, 0, 2, (x, v) -> x.write(v, 0), v -> new int[] {5, 4, 1}[v]);
        bounds("of sixteen", INDEX, sixteen, 0, 15, (x, v) -> x.write(v, 0), v -> 1);
        none("of none", INDEX, EMPTY, (x, v) -> x.write(v, 0));
        sentence("4: or word is not 0 to 39");
        bounds("word", INDEX, SOME, 0, 39, (x, v) -> all(x.write(2, v), x.word(2, 0)), v -> "1 " + v);
        sentence("4: IllegalStateException if it has 12");
        due("the twelfth", "12 39", eleven, x -> all(x.write(1, 39), x.word(1, 11)));
        for (int article = 0; article < 16; article++) {
            int a = article;
            refused("a thirteenth of " + a, STATE, FULL, x -> x.write(a, 0));
        }
        due("the others' rows are their own", "12 1 " + STATE, eleven,
            x -> all(x.write(1, 1), x.write(0, 1), tried(() -> x.write(1, 1))));
        due("again behind a strike", STATE + " 39 12 " + STATE, ClipBureauBounds::twelveWords, x -> all(
            tried(() -> x.write(1, 5)), x.strike(1, 0), x.write(1, 5), tried(() -> x.write(1, 5))));
        sentence("4: IndexOutOfBoundsException is named first");
        for (int word : new int[] {-1, 40, LOW, HIGH}) {
            refused("word " + word + " for a full article", INDEX, FULL, x -> x.write(15, word));
        }
        refused("no article and no word", INDEX, FULL, x -> x.write(16, 40));
        sentence("4: Adds a word to the end");
        due("behind the others", "5 0 1 2 39 7", SOME, x -> all(x.write(0, 7), each(5, p -> x.word(0, p))));
        due("in the place of one struck out", "0 4 1 2 39 7", SOME,
            x -> all(x.strike(0, 0), x.write(0, 7), each(4, p -> x.word(0, p))));
        due("twelve in the places of twelve", each(12, p -> 28 + p), ClipBureauBounds::twelveWords, x -> {
            again(12, () -> x.strike(1, 0));
            each(12, p -> x.write(1, 28 + p));
            return each(12, p -> x.word(1, p));
        });
    }

    private static void promise5() {
        Made twelve = ClipBureauBounds::twelveWords;
        int[] words = {39, 1, 2, 3, 4, 5, 6, 7, 8, 9, 10, 0};
        sentence("5: IndexOutOfBoundsException if there is no such article");
        bounds("of three", INDEX, SOME, 0, 1, (x, v) -> x.strike(v, 0), v -> 2 * v);
        refused("one behind the last", INDEX, SOME, x -> x.strike(3, 0));
        bounds("of sixteen", INDEX, FULL, 0, 15, (x, v) -> x.strike(v, 0), v -> 5 * v % 40);
        none("of none", INDEX, EMPTY, (x, v) -> x.strike(v, 0));
        sentence("5: or place");
        bounds("of twelve", INDEX, twelve, 0, 11, (x, v) -> x.strike(1, v), v -> words[v]);
        bounds("of four", INDEX, SOME, 0, 3, (x, v) -> x.strike(0, v), v -> new int[] {0, 1, 2, 39}[v]);
        none("of no words", INDEX, SOME, (x, v) -> x.strike(2, v));
        none("of sixteen articles without words", INDEX, ClipBureauBounds::sixteen, (x, v) -> x.strike(15, v));
        refused("behind eleven left", INDEX, () -> {
            ClipBureau x = twelveWords();
            x.strike(1, 3);
            return x;
        }, x -> x.strike(1, 11));
        refused("no article and no place", INDEX, FULL, x -> x.strike(16, 12));
        sentence("5: those behind it move up");
        bounds("the row without", INDEX, twelve, 0, 11,
            (x, v) -> all(x.strike(1, v), x.told(1, 0), each(11, p -> x.word(1, p)), tried(() -> x.word(1, 11))),
            v -> all(words[v], 11, each(11, p -> words[p < v ? p : p + 1]), INDEX));
        due("all twelve from the front", all(each(12, p -> words[p]), 0, INDEX), twelve,
            x -> all(each(12, p -> x.strike(1, 0)), x.told(1, 0), tried(() -> x.strike(1, 0))));
        due("all twelve from the end", each(12, p -> words[11 - p]), twelve, x -> each(12, p -> x.strike(1, 11 - p)));
        due("one of two like ones", "7 1 7", EMPTY, x -> {
            article(x, 7, 7);
            return all(x.strike(0, 0), x.told(0, 0), x.word(0, 0));
        });
    }

    // ---- promises 6 to 12

    private static void promise6() {
        Made five = () -> {
            ClipBureau x = new ClipBureau();
            again(5, () -> x.client(1));
            return x;
        };
        sentence("6: IllegalArgumentException if coins is not 0 to 999");
        bounds("coins", ARGUMENT, EMPTY, 0, 999, (x, v) -> all(x.client(v), x.about(0, 0)), v -> "0 " + v);
        sentence("6: IllegalStateException if there are 6");
        due("the sixth", "5 999 20 0", five, x -> all(x.client(999), x.about(5, 0), x.about(5, 2), x.about(5, 1)));
        for (int coins : new int[] {0, 1, 999}) {
            refused("a seventh with coins " + coins, STATE, FULL, x -> x.client(coins));
            refused("a seventh with coins " + coins, STATE, ClipBureauBounds::sixClients, x -> x.client(coins));
        }
        sentence("6: IllegalArgumentException is named first");
        for (int coins : new int[] {-1, 1000, LOW, HIGH}) {
            refused("a seventh with coins " + coins, ARGUMENT, FULL, x -> x.client(coins));
            refused("the sixth with coins " + coins, ARGUMENT, five, x -> x.client(coins));
        }
    }

    private static void promise7() {
        Made six = ClipBureauBounds::sixClients;
        Made five = ClipBureauBounds::fiveStems;
        sentence("7: IndexOutOfBoundsException if there is no such client");
        bounds("of two", INDEX, SOME, 0, 1, (x, v) -> x.want(v, 9), v -> 3);
        bounds("of six", INDEX, six, 0, 5, (x, v) -> all(x.want(v, 9), each(6, c -> x.about(c, 1))),
            v -> "1 " + each(6, c -> c == v ? 1 : 0));
        none("of none", INDEX, EMPTY, (x, v) -> x.want(v, 9));
        sentence("7: or stem is not 0 to 19");
        bounds("stem", INDEX, six, 0, 19, (x, v) -> all(x.want(5, v), x.stem(5, 0)), v -> "1 " + v);
        refused("no client and no stem", INDEX, six, x -> x.want(6, 20));
        sentence("7: IllegalStateException if it wants 5");
        due("up to five", "1 2 3 4 5 " + STATE, six,
            x -> all(each(5, i -> x.want(0, 19 - i)), tried(() -> x.want(0, 0))));
        for (int stem = 0; stem < 20; stem++) {
            int s = stem;
            refused("a sixth, " + s, STATE, five, x -> x.want(1, s));
        }
        refused("a sixth of a full bureau", STATE, FULL, x -> x.want(5, 0));
        due("again behind a drop", "2 5 19 0 3 11 7 " + STATE, five, x -> all(
            x.drop(1, 7), x.want(1, 7), each(5, p -> x.stem(1, p)), tried(() -> x.want(1, 1))));
        sentence("7: or this one already");
        for (int wanted = 1; wanted <= 4; wanted++) {
            int n = wanted;
            Made made = () -> client(new ClipBureau(), 1, 20, Arrays.copyOf(row(0, 19, 7, 3), n));
            for (int place = 0; place < n; place++) {
                int p = place;
                refused("the one at place " + p + " of " + n, STATE, made, x -> x.want(0, row(0, 19, 7, 3)[p]));
            }
        }
        due("another client's is none", 1, five, x -> x.want(2, 19));
        due("a dropped one is none", "1 0 1", six, x -> all(x.want(3, 8), x.drop(3, 8), x.want(3, 8)));
        sentence("7: IndexOutOfBoundsException is named first");
        for (int stem : new int[] {-1, 20, LOW, HIGH}) {
            refused("stem " + stem + " for one that wants 5", INDEX, five, x -> x.want(1, stem));
        }
    }

    private static void promise8() {
        Made five = ClipBureauBounds::fiveStems;
        int[] stems = {19, 0, 7, 3, 11};
        sentence("8: IndexOutOfBoundsException if there is no such client");
        bounds("of two", INDEX, SOME, 0, 1, (x, v) -> x.drop(v, v == 0 ? 1 : 3), v -> 1);
        bounds("of six", INDEX, FULL, 0, 5, (x, v) -> all(x.drop(v, v + 5), each(6, c -> x.about(c, 1))),
            v -> "2 " + each(6, c -> c == v ? 4 : 5));
        none("of none", INDEX, EMPTY, (x, v) -> x.drop(v, 0));
        sentence("8: or stem is not 0 to 19");
        Made firstAndLast = () -> client(new ClipBureau(), 1, 20, 0, 19);
        due("stem 0", 0, firstAndLast, x -> x.drop(0, 0));
        due("stem 19", 1, firstAndLast, x -> x.drop(0, 19));
        for (int stem : new int[] {-1, 20, LOW, HIGH}) {
            refused("stem " + stem, INDEX, firstAndLast, x -> x.drop(0, stem));
            refused("stem " + stem + " of one that wants five", INDEX, five, x -> x.drop(1, stem));
        }
        refused("no client and no stem", INDEX, five, x -> x.drop(3, 20));
        sentence("8: IllegalStateException if it does not want it");
        for (int stem = 0; stem < 20; stem++) {
            int s = stem;
            refused("of one that wants none, " + s, STATE, five, x -> x.drop(0, s));
        }
        for (int stem : new int[] {1, 2, 18}) {
            refused("of one that wants five, " + stem, STATE, five, x -> x.drop(1, stem));
        }
        due("twice", "2 " + STATE, five, x -> all(x.drop(1, 7), tried(() -> x.drop(1, 7))));
        due("the last of the row twice", "4 " + STATE, five, x -> all(x.drop(1, 11), tried(() -> x.drop(1, 11))));
        sentence("8: IndexOutOfBoundsException is named first");
        refused("stem -1, which none wants", INDEX, five, x -> x.drop(0, -1));
        refused("stem 20, which none wants", INDEX, five, x -> x.drop(0, 20));
        refused("a client that is not there, a stem that none wants", INDEX, five, x -> x.drop(3, 1));
        sentence("8: Returns its place among those that it wanted, from 0");
        for (int place = 0; place < 5; place++) {
            int v = place;
            due("and the row without place " + v, all(v, 4, each(4, p -> stems[p < v ? p : p + 1]), INDEX), five,
                x -> all(x.drop(1, stems[v]), x.about(1, 1), each(4, p -> x.stem(1, p)), tried(() -> x.stem(1, 4))));
        }
        due("all from the front", "0 0 0 0 0 0", five, x -> all(each(5, p -> x.drop(1, stems[p])), x.about(1, 1)));
        due("all from the end", "4 3 2 1 0 0", five, x -> all(each(5, p -> x.drop(1, stems[4 - p])), x.about(1, 1)));
    }

    private static void promise9() {
        Made six = ClipBureauBounds::sixClients;
        sentence("9: IndexOutOfBoundsException if there is no such client");
        bounds("of two", INDEX, SOME, 0, 1, (x, v) -> x.setBar(v, 5), v -> 10 + 10 * v);
        bounds("of six", INDEX, six, 0, 5, (x, v) -> all(x.setBar(v, 7), each(6, c -> x.about(c, 2))),
            v -> "20 " + each(6, c -> c == v ? 7 : 20));
        none("of none", INDEX, EMPTY, (x, v) -> x.setBar(v, 7));
        sentence("9: IllegalArgumentException if bar is not 0 to 999");
        Made one = () -> client(bureau(row(0)), 1, 33, 0);
        bounds("bar", ARGUMENT, one, 0, 999, (x, v) -> all(x.setBar(0, v), x.about(0, 2), x.setBar(0, 20)),
            v -> all(33, v, v));
        for (int bar : new int[] {-1, 1000, LOW, HIGH}) {
            refused("of a full bureau, bar " + bar, ARGUMENT, FULL, x -> x.setBar(5, bar));
        }
        sentence("9: IndexOutOfBoundsException is named first");
        for (int bar : new int[] {-1, 1000, LOW, HIGH}) {
            refused("client 6, bar " + bar, INDEX, FULL, x -> x.setBar(6, bar));
            refused("client -1, bar " + bar, INDEX, SOME, x -> x.setBar(-1, bar));
            refused("no clients, bar " + bar, INDEX, EMPTY, x -> x.setBar(0, bar));
        }
    }

    private static void promise10() {
        Made six = ClipBureauBounds::sixClients;
        sentence("10: IndexOutOfBoundsException if there is no such client");
        bounds("of two", INDEX, SOME, 0, 1, (x, v) -> x.pay(v, 5) - x.about(v, 0), v -> 0);
        bounds("of six", INDEX, six, 0, 5, (x, v) -> all(x.pay(v, 7), each(6, c -> x.about(c, 0))),
            v -> "16 " + each(6, c -> c == v ? 16 : 9));
        none("of none", INDEX, EMPTY, (x, v) -> x.pay(v, 7));
        sentence("10: IllegalArgumentException if coins is not 1 to 999");
        bounds("coins", ARGUMENT, six, 1, 999, (x, v) -> all(x.pay(5, v), x.about(5, 0)), v -> all(v + 9, v + 9));
        for (int coins : new int[] {0, -1, 1000, LOW, HIGH}) {
            refused("of a full bureau, coins " + coins, ARGUMENT, FULL, x -> x.pay(0, coins));
        }
        sentence("10: IndexOutOfBoundsException is named first");
        for (int coins : new int[] {0, -1, 1000, LOW, HIGH}) {
            refused("client 6, coins " + coins, INDEX, FULL, x -> x.pay(6, coins));
            refused("client -1, coins " + coins, INDEX, SOME, x -> x.pay(-1, coins));
            refused("no clients, coins " + coins, INDEX, EMPTY, x -> x.pay(0, coins));
        }
        sentence("10: how many coins more it has, at most 9999 in all");
        Made rich = () -> {
            ClipBureau x = client(bureau(row()), 999, 0);
            again(9, () -> x.pay(0, 999));
            return x;
        };
        due("9990 and 8", "9998 9998", rich, x -> all(x.pay(0, 8), x.about(0, 0)));
        due("9990 and 9", "9999 9999", rich, x -> all(x.pay(0, 9), x.about(0, 0)));
        due("9990 and 10", "9999 9999", rich, x -> all(x.pay(0, 10), x.about(0, 0)));
        due("9990 and 999", "9999 9999", rich, x -> all(x.pay(0, 999), x.about(0, 0)));
        due("9998 and 1, and 1", "9998 9999 9999", rich, x -> all(x.pay(0, 8), x.pay(0, 1), x.pay(0, 1)));
        due("9000 and 999", "9000 9999", EMPTY, x -> {
            x.client(9);
            again(8, () -> x.pay(0, 999));
            return all(x.pay(0, 999), x.pay(0, 999));
        });
        due("what is too many is gone", "9999 0 9997 9999", rich,
            x -> all(x.pay(0, 999), x.send(0), x.about(0, 0), x.pay(0, 999)));
    }

    private static void promise11() {
        sentence("11: IndexOutOfBoundsException if there is no such client");
        bounds("of two", INDEX, SOME, 0, 1, ClipBureau::send, v -> -1);
        bounds("of six", INDEX, () -> {
            ClipBureau x = oneOf(1);
            again(6, () -> client(x, 2, 0));
            return x;
        }, 0, 5, (x, v) -> all(x.send(v), each(6, c -> x.about(c, 3))), v -> "0 " + each(6, c -> c == v ? 1 : 0));
        none("of none", INDEX, EMPTY, ClipBureau::send);
        none("of none, with articles", INDEX, ClipBureauBounds::sixteen, ClipBureau::send);
        sentence("11: Returns the article that is sent; -1 if none");
        due("up to the last", each(16, a -> a) + " -1 -1", ClipBureauBounds::sixteen, x -> {
            client(x, 99, 0);
            return each(18, i -> x.send(0));
        });
        due("coins for three", "0 1 2 -1 1", ClipBureauBounds::sixteen, x -> {
            client(x, 7, 0);
            return all(each(4, i -> x.send(0)), x.about(0, 0));
        });
        due("again with one coin more", "0 -1 2 1 -1", ClipBureauBounds::sixteen, x -> {
            client(x, 3, 0);
            return all(x.send(0), x.send(0), x.pay(0, 1), x.send(0), x.send(0));
        });
        unchanged("a sending of nothing", SOME, x -> x.send(0));
        unchanged("a sending without coins", FULL, x -> x.send(0));
    }

    /** Its price falls to 2 when it is 29 rounds old, so 2 coins are enough in the 30th round alone. */
    private static ClipBureau sentInTheLastRound() {
        ClipBureau x = bureau(row(0, 2, 4, 6, 8, 0, 2));
        return client(x, 2, 0, 0, 1, 2, 3, 4);
    }

    private static void promise12() {
        for (Made made : new Made[] {EMPTY, ClipBureauBounds::sixteen}) {
            sentence("12: IllegalArgumentException if rounds is not 1 to 30");
            bounds("rounds", ARGUMENT, made, 1, 30, (x, v) -> all(x.pass(v), x.count(4)), v -> "0 " + v);
        }
        for (int rounds : new int[] {0, 31}) {
            refused("of some, rounds " + rounds, ARGUMENT, SOME, x -> x.pass(rounds));
            refused("of a full bureau, rounds " + rounds, ARGUMENT, FULL, x -> x.pass(rounds));
        }
        sentence("12: Lets rounds go by: no more and no less");
        bounds("ages", ARGUMENT, ClipBureauBounds::sixteen, 1, 30,
            (x, v) -> all(x.pass(v), x.told(0, 2), x.told(15, 2)), v -> all(0, v, v));
        bounds("one sent in the 30th", ARGUMENT, ClipBureauBounds::sentInTheLastRound, 1, 30, ClipBureau::pass,
            v -> v == 30 ? 1 : 0);
        sentence("12: Returns how many articles are sent in them");
        Made all = () -> {
            ClipBureau x = sixteen();
            again(6, () -> client(x, 99, 0));
            return x;
        };
        bounds("sixteen to each of six", ARGUMENT, all, 1, 30, ClipBureau::pass, v -> Math.min(12 * v, 96));
        due("not those before", "14 11 10 36", all, x -> {
            Object last = again(15, () -> x.send(0));
            return all(last, x.pass(1), x.pass(1), x.count(5));
        });
        due("no clients", 0, ClipBureauBounds::sixteen, x -> x.pass(30));
        due("no articles", 0, ClipBureauBounds::sixClients, x -> x.pass(30));
    }

    // ---- promises 13 to 17

    private static void promise13() {
        sentence("13: IndexOutOfBoundsException if there is no such article");
        bounds("of three", INDEX, SOME, 0, 2, (x, v) -> x.told(v, 0), v -> new int[] {4, 3, 0}[v]);
        bounds("of sixteen", INDEX, FULL, 0, 15, (x, v) -> x.told(v, 0), v -> 12);
        none("of none", INDEX, EMPTY, (x, v) -> x.told(v, 0));
        sentence("13: or what is not 0 to 3");
        bounds("what", INDEX, SOME, 0, 3, (x, v) -> x.told(0, v), v -> new int[] {4, 3, 1, 1}[v]);
        refused("no article and no such what", INDEX, SOME, x -> x.told(3, 4));
        sentence("13: 0 its words, 1 different stems of these");
        due("none to twelve of twelve", "0 0 1 1 2 2 3 3 4 4 5 5 6 6 7 7 8 8 9 9 10 10 11 11 12 12", EMPTY, x -> {
            x.print();
            return all(x.told(0, 0), x.told(0, 1), each(12, n -> all(x.write(0, 2 * n + 16), x.told(0, 1))));
        });
        due("twelve of one stem", "12 1", EMPTY, x -> all(bureauInto(x, times(12, 39)).told(0, 0), x.told(0, 1)));
        due("the first and the last stem", 2, EMPTY, x -> bureauInto(x, row(0, 39)).told(0, 1));
        sentence("13: 3 clients to whom it was sent");
        due("none to six", "0 1 2 3 4 5 6", EMPTY, x -> {
            x.print();
            again(6, () -> client(x, 2, 0));
            return all(x.told(0, 3), each(6, c -> behind(x.send(c), x.told(0, 3))));
        });
        due("the last article", "0 6", ClipBureauBounds::sixteen, x -> {
            again(6, () -> client(x, 99, 0));
            int before = x.told(15, 3);
            x.pass(8);
            return all(before, x.told(15, 3));
        });
    }

    private static void promise14() {
        int[] words = {39, 1, 2, 3, 4, 5, 6, 7, 8, 9, 10, 0};
        sentence("14: IndexOutOfBoundsException if there is no such article");
        bounds("of sixteen", INDEX, FULL, 0, 15, (x, v) -> x.word(v, 0), v -> 5 * v % 40);
        none("of none", INDEX, EMPTY, (x, v) -> x.word(v, 0));
        refused("one behind the last", INDEX, SOME, x -> x.word(3, 0));
        refused("one ahead of the first", INDEX, SOME, x -> x.word(-1, 0));
        sentence("14: or place");
        bounds("of twelve", INDEX, ClipBureauBounds::twelveWords, 0, 11, (x, v) -> x.word(1, v), v -> words[v]);
        bounds("of three", INDEX, SOME, 0, 2, (x, v) -> x.word(1, v), v -> new int[] {2, 2, 4}[v]);
        none("of no words", INDEX, SOME, (x, v) -> x.word(2, v));
        none("of words that were struck out", INDEX, () -> {
            ClipBureau x = bureau(row(7, 8));
            x.strike(0, 0);
            x.strike(0, 0);
            return x;
        }, (x, v) -> x.word(0, v));
        refused("no article and no place", INDEX, FULL, x -> x.word(16, 12));
    }

    private static void promise15() {
        sentence("15: IndexOutOfBoundsException if there is no such client");
        bounds("of two", INDEX, SOME, 0, 1, (x, v) -> x.about(v, 2), v -> 10 + 10 * v);
        bounds("of six", INDEX, FULL, 0, 5, (x, v) -> x.about(v, 0), v -> 100 * v);
        none("of none", INDEX, EMPTY, (x, v) -> x.about(v, 0));
        sentence("15: or what is not 0 to 5");
        bounds("what", INDEX, () -> {
            // the first has stem 0 twice and stem 1, each for 13, and the half: 58, so its price is 4
            ClipBureau x = client(bureau(row(0, 1, 2), row(2, 2), row(0)), 50, 10, 0, 1);
            x.send(0);
            return x;
        }, 0, 5, (x, v) -> x.about(0, v), v -> new int[] {46, 2, 10, 1, 4, 2}[v]);
        refused("no client and no such what", INDEX, SOME, x -> x.about(2, 6));
        sentence("15: 1 stems that it wants: none to 5");
        due("one by one", "0 1 2 3 4 5", ClipBureauBounds::sixClients,
            x -> all(x.about(5, 1), each(5, n -> behind(x.want(5, n), x.about(5, 1)))));
        sentence("15: 3 articles that were sent to it, 4 coins that it paid for these, 5 its fit articles: none to 16");
        due("one by one", each(17, n -> all(n, 2 * n, 16 - n, 99 - 2 * n)), ClipBureauBounds::sixteen, x -> {
            client(x, 99, 0);
            return each(17, n -> {
                if (n > 0) {
                    x.send(0);
                }
                return all(x.about(0, 3), x.about(0, 4), x.about(0, 5), x.about(0, 0));
            });
        });
        due("no articles", "0 0 0", ClipBureauBounds::sixClients,
            x -> all(x.about(5, 3), x.about(5, 4), x.about(5, 5)));
        due("coins are those paid then, not the price now", "3 3", EMPTY, x -> {
            client(bureauInto(x, row(0, 0)), 9, 0, 0);
            x.send(0);
            int then = x.about(0, 4);
            x.strike(0, 0);
            return all(then, x.about(0, 4));
        });
    }

    private static void promise16() {
        int[] stems = {19, 0, 7, 3, 11};
        sentence("16: IndexOutOfBoundsException if there is no such client");
        bounds("of six", INDEX, FULL, 0, 5, (x, v) -> x.stem(v, 0), v -> v);
        bounds("of two", INDEX, SOME, 0, 1, (x, v) -> x.stem(v, 0), v -> 19 * v);
        none("of none", INDEX, EMPTY, (x, v) -> x.stem(v, 0));
        sentence("16: or place");
        bounds("of five", INDEX, ClipBureauBounds::fiveStems, 0, 4, (x, v) -> x.stem(1, v), v -> stems[v]);
        bounds("of two", INDEX, SOME, 0, 1, (x, v) -> x.stem(0, v), v -> v);
        none("of none wanted", INDEX, ClipBureauBounds::fiveStems, (x, v) -> x.stem(2, v));
        none("of what was dropped", INDEX, () -> {
            ClipBureau x = client(new ClipBureau(), 1, 20, 5);
            x.drop(0, 5);
            return x;
        }, (x, v) -> x.stem(0, v));
        refused("no client and no place", INDEX, FULL, x -> x.stem(6, 5));
    }

    private static void promise17() {
        sentence("17: IndexOutOfBoundsException if what is not 0 to 6");
        bounds("of nothing", INDEX, EMPTY, 0, 6, ClipBureau::count, v -> 0);
        bounds("of something", INDEX, () -> {
            ClipBureau x = bureau(row(0, 1, 2), row(3, 39), row());
            client(client(x, 10, 0), 2, 0);
            x.pass(1);
            x.send(0);
            return x;
        }, 0, 6, ClipBureau::count, v -> new int[] {3, 2, 5, 3, 1, 4, 8}[v]);
        bounds("of as many as there may be", INDEX, FULL, 0, 6, ClipBureau::count,
            v -> new int[] {16, 6, 192, 20, 0, 0, 0}[v]);
        sentence("17: 3 different stems of all articles: none to 20");
        due("one by one", each(21, n -> n), ClipBureauBounds::sixteen,
            x -> all(x.count(3), each(20, n -> behind(x.write(n % 16, 2 * n), x.count(3)))));
        due("a stem in several is one", 1, EMPTY, x -> alikeOnes(16, 38, 39).count(3));
        due("all words of one stem", "20 1", FULL, x -> {
            int before = x.count(3);
            each(40, w -> x.setStem(w, 19));
            return all(before, x.count(3));
        });
        sentence("17: 2 words of all articles");
        due("struck out ones are gone", "192 191 192", FULL,
            x -> all(x.count(2), behind(x.strike(15, 11), x.count(2)), behind(x.write(15, 0), x.count(2))));
        sentence("17: 5 articles sent in all, 6 coins paid for them in all: up to all to each");
        due("by the round", "12 24 36 48 60 72 84 96 96 192", ClipBureauBounds::sixteen, x -> {
            again(6, () -> client(x, 99, 0));
            return all(each(9, i -> behind(x.pass(1), x.count(5))), x.count(6));
        });
    }

    // ---- promises 18 to 21

    private static void promise18() {
        sentence("18: IndexOutOfBoundsException if stem is not 0 to 19");
        for (Made made : new Made[] {EMPTY, ClipBureauBounds::sixteen}) {
            bounds("stem", INDEX, made, 0, 19, ClipBureau::rarity, v -> made == EMPTY ? 10 : 170);
        }
        bounds("of words of stems 0 and 19", INDEX, () -> bureau(row(0), row(0), row(39)), 0, 19, ClipBureau::rarity,
            v -> v == 0 ? 13 : v == 19 ? 20 : 40);
        refused("of a full bureau", INDEX, FULL, x -> x.rarity(20));
        refused("of a full bureau, below", INDEX, FULL, x -> x.rarity(-1));
    }

    private static void promise19() {
        Made two = () -> client(client(bureau(row(0), row(0, 2), row()), 1, 20, 0), 1, 20, 1);
        Made wide = () -> {
            ClipBureau x = sixteen();
            again(6, () -> client(x, 1, 20, 19));
            x.write(15, 39);
            return x;
        };
        sentence("19: IndexOutOfBoundsException if there is no such client");
        bounds("of two", INDEX, two, 0, 1, (x, v) -> x.score(v, 1), v -> v == 0 ? 13 : 20);
        bounds("of six", INDEX, wide, 0, 5, (x, v) -> x.score(v, 15), v -> 85);
        none("of none", INDEX, ClipBureauBounds::sixteen, (x, v) -> x.score(v, 0));
        sentence("19: or article");
        bounds("of three", INDEX, two, 0, 2, (x, v) -> x.score(0, v), v -> v < 2 ? 13 : 0);
        bounds("of sixteen", INDEX, wide, 0, 15, (x, v) -> x.score(5, v), v -> v == 15 ? 85 : 0);
        none("of no articles", INDEX, ClipBureauBounds::sixClients, (x, v) -> x.score(0, v));
        refused("neither", INDEX, FULL, x -> x.score(6, 16));
        refused("neither of none", INDEX, EMPTY, x -> x.score(0, 0));
    }

    private static void promise20() {
        Made falling = () -> {
            ClipBureau x = new ClipBureau();
            for (int article = 0; article < 16; article++) {
                article(x, times(article / 4, 38));
            }
            again(6, () -> client(x, 99, 0, 19));
            return x;
        };
        sentence("20: IndexOutOfBoundsException if there is no such client");
        bounds("of six", INDEX, falling, 0, 5, (x, v) -> x.fit(v, 0), v -> 12);
        bounds("of six, with one article", INDEX, () -> {
            ClipBureau x = oneOf(1);
            again(6, () -> client(x, 9, 0));
            return x;
        }, 0, 5, (x, v) -> x.fit(v, 0), v -> 0);
        none("of none", INDEX, ClipBureauBounds::sixteen, (x, v) -> x.fit(v, 0));
        sentence("20: or place");
        bounds("of sixteen", INDEX, falling, 0, 15, (x, v) -> x.fit(0, v), v -> 12 - v / 4 * 4 + v % 4);
        none("of no articles", INDEX, ClipBureauBounds::sixClients, (x, v) -> x.fit(5, v));
        none("of none that is fit", INDEX, () -> client(bureau(row(0)), 1, 11, 0), (x, v) -> x.fit(0, v));
        bounds("of one that is fit", INDEX, () -> client(bureau(row(), row(0), row()), 1, 20, 0), 0, 0,
            (x, v) -> x.fit(0, v), v -> 1);
        none("of none that was not sent", INDEX, () -> {
            ClipBureau x = client(bureau(row(0), row()), 9, 0, 0);
            x.pass(1);
            return x;
        }, (x, v) -> x.fit(0, v));
        refused("no client and no place", INDEX, FULL, x -> x.fit(6, 16));
        sentence("20: the greatest score first, of several the smallest number first");
        due("and without those that were sent", "12 13 14 15 8 9", falling, x -> {
            String sent = all(x.send(0), x.send(0), x.send(0));
            return all(sent, x.fit(0, 0), x.fit(0, 1), x.fit(0, 2));
        });
        due("up to the bar", "8 12 11 " + INDEX, falling, x -> {
            // 12 of sixteen have it, so its rarity is 13: scores of 39, 26, 13 and 0
            x.setBar(1, 26);
            return all(x.about(1, 5), x.fit(1, 0), x.fit(1, 7), tried(() -> x.fit(1, 8)));
        });
    }

    private static void promise21() {
        sentence("21: IndexOutOfBoundsException if there is no such article");
        Made made = () -> bureau(row(0, 1), row(1, 2), row());
        bounds("a", INDEX, made, 0, 2, (x, v) -> x.alike(v, 0), v -> new int[] {100, 50, 0}[v]);
        bounds("b", INDEX, made, 0, 2, (x, v) -> x.alike(1, v), v -> new int[] {50, 100, 0}[v]);
        bounds("a of sixteen", INDEX, ClipBureauBounds::sixteen, 0, 15, (x, v) -> x.alike(v, 15), v -> 0);
        bounds("b of sixteen", INDEX, ClipBureauBounds::sixteen, 0, 15, (x, v) -> x.alike(15, v), v -> 0);
        bounds("itself, of a full bureau", INDEX, FULL, 0, 15, (x, v) -> x.alike(v, v), v -> 100);
        none("of none", INDEX, EMPTY, (x, v) -> x.alike(v, v));
        sentence("21: 0, if both have no words");
        due("two", 0, made, x -> x.alike(2, 2));
        due("struck out", "100 0 0 0", EMPTY, x -> {
            bureauInto(x, row(0), row(0));
            int before = x.alike(0, 1);
            x.strike(0, 0);
            int one = x.alike(0, 1);
            x.strike(1, 0);
            return all(before, one, x.alike(0, 1), x.alike(0, 0));
        });
        sentence("21: one of them has no words");
        due("of twelve words", "0 0", ClipBureauBounds::twelveWords, x -> all(x.alike(0, 1), x.alike(1, 2)));
        sentence("21: for each stem how often that has it which has it less often, twice");
        for (int often = 0; often <= 12; often++) {
            int n = often;
            due(n + " and twelve", 2 * n * 100 / (12 + n), EMPTY, x -> {
                bureauInto(x, times(n, 39), times(12, 38));
                return x.alike(0, 1) == x.alike(1, 0) ? x.alike(0, 1) : -1;
            });
        }
        due("all stems, also 0 and 19", 80, EMPTY, x -> bureau(row(0, 38, 20, 4), row(1, 39, 21, 4, 4, 4)).alike(0, 1));
        due("nothing in common", 0, EMPTY, x -> bureau(times(12, 0), times(12, 2)).alike(0, 1));
    }

    // ---- promises 22 to 26

    private static void promise22() {
        sentence("22: IndexOutOfBoundsException if there is no such client");
        bounds("of six", INDEX, () -> {
            ClipBureau x = bureau(row(38));
            again(6, () -> client(x, 9, 10));
            return x;
        }, 0, 5, ClipBureau::advise, v -> 19);
        none("of none", INDEX, ClipBureauBounds::sixteen, ClipBureau::advise);
        sentence("22: Returns the stem, 0 to 19, with which its best fit article would score the most");
        for (int stem = 0; stem < 20; stem++) {
            int s = stem;
            due("the only one that makes it fit, " + s, s, EMPTY,
                x -> client(bureau(times(2, 2 * s)), 0, 20).advise(0));
            due("the best one, " + s, s, EMPTY, x -> {
                client(bureauInto(x, times(3, 2 * s), row(10)), 0, 0);
                return x.advise(0);
            });
        }
        sentence("22: of several the smallest one");
        for (int stem = 0; stem < 19; stem++) {
            int s = stem;
            due(s + " and 19", s, EMPTY, x -> client(bureau(row(38), row(2 * s)), 0, 10).advise(0));
        }
        due("all bring the same", 0, ClipBureauBounds::sixteen, x -> client(x, 0, 0).advise(0));
        sentence("22: the stem that it does not want");
        due("none that it wants", "4 0 1", EMPTY, x -> {
            client(bureauInto(x, row(8, 8)), 0, 20);
            int first = x.advise(0);
            x.want(0, 4);
            int second = x.advise(0);
            x.want(0, 0);
            return all(first, second, x.advise(0));
        });
        sentence("22: -1 if it wants 5");
        due("none to five", "0 1 2 3 4 -1", ClipBureauBounds::sixteen, x -> {
            client(x, 0, 0);
            return all(x.advise(0), each(5, n -> behind(x.want(0, n), x.advise(0))));
        });
        due("a fifth to be the last", "19 -1", EMPTY, x -> {
            client(bureauInto(x, row(38, 38)), 0, 20, 0, 1, 2, 3);
            int four = x.advise(0);
            x.want(0, 19);
            return all(four, x.advise(0));
        });
        adviseWithoutFit();
        adviseAndTheHalf();
    }

    private static void adviseWithoutFit() {
        sentence("22: or no article would be fit by any");
        due("no articles", -1, ClipBureauBounds::sixClients, x -> x.advise(5));
        due("a score of 20 at bars of 20 and 21", "9 -1", EMPTY, x -> {
            client(bureauInto(x, row(18, 19)), 0, 20);
            int at = x.advise(0);
            x.setBar(0, 21);
            return all(at, x.advise(0));
        });
        due("no words, at bars of 1 and 0", "-1 0", ClipBureauBounds::sixteen, x -> {
            client(x, 0, 1);
            int one = x.advise(0);
            x.setBar(0, 0);
            return all(one, x.advise(0));
        });
        due("all were sent", "0 -1", EMPTY, x -> {
            client(bureauInto(x, row(0, 0)), 9, 0);
            int before = x.advise(0);
            x.send(0);
            return all(before, x.advise(0));
        });
        due("only those that were not sent", "5 4", EMPTY, x -> {
            client(bureauInto(x, row(10, 10), row(8)), 9, 0);
            int before = x.advise(0);
            x.send(0);
            return all(before, x.advise(0));
        });
        due("too old, but another is young", "19 -1", EMPTY, x -> {
            // of two articles one has it: a rarity of 15
            client(client(bureauInto(x, row(0, 0)), 0, 999), 0, 15);
            x.pass(30);
            article(x, 38);
            int young = x.advise(1);
            x.pass(1);
            return all(young, x.advise(1));
        });
        due("too old", "0 -1", EMPTY, x -> {
            client(bureauInto(x, row(0)), 0, 1);
            x.pass(3);
            int one = x.advise(0);
            x.pass(1);
            return all(one, x.advise(0));
        });
    }

    private static void adviseAndTheHalf() {
        sentence("22: if it was wanted, too (with all that this changes, the half as well)");
        // with 1 the first has both stems of two and scores 45; the second would score 40 with 19
        due("won", 1, EMPTY, x -> client(bureau(row(0, 2), row(38, 38)), 0, 20, 0).advise(0));
        due("not won by the first stem", 19, EMPTY, x -> client(bureau(row(0, 2), row(38, 38, 38)), 0, 20).advise(0));
        due("kept by the fifth", 8, EMPTY, x -> client(bureau(row(0, 2, 4, 6, 16)), 0, 0, 0, 1, 2, 3).advise(0));
        due("lost, so none is fit", "30 1 -1", EMPTY, x -> {
            client(bureauInto(x, row(0, 2)), 0, 21, 0, 1);
            return all(x.score(0, 0), x.about(0, 5), x.advise(0));
        });
        due("lost, so another is the best", 19, EMPTY,
            x -> client(bureau(row(0, 2), row(0, 2), row(38, 38, 38)), 0, 46, 0, 1).advise(0));
        due("the three times", 1, EMPTY, x -> client(bureau(row(2, 2, 2), row(4, 4, 4, 4)), 0, 0).advise(0));
    }

    private static void promise23() {
        Made last = ClipBureauBounds::sentInTheLastRound;
        sentence("23: IllegalArgumentException if rounds is not 1 to 30");
        bounds("one sent in the 30th", ARGUMENT, last, 1, 30, (x, v) -> x.foresee(v, 0), v -> v == 30 ? 0 : 2);
        for (int rounds : new int[] {0, 31}) {
            refused("of a full bureau, rounds " + rounds, ARGUMENT, FULL, x -> x.foresee(rounds, 5));
        }
        sentence("23: IndexOutOfBoundsException if there is no such client");
        Made six = () -> {
            ClipBureau x = sixteen();
            each(6, c -> client(x, 50 + c, 0));
            return x;
        };
        bounds("of six", INDEX, six, 0, 5, (x, v) -> x.foresee(30, v), v -> 18 + v);
        bounds("of two", INDEX, SOME, 0, 1, (x, v) -> x.foresee(1, v) - x.about(v, 0), v -> 0);
        none("of none", INDEX, EMPTY, (x, v) -> x.foresee(1, v));
        none("of none, with articles", INDEX, ClipBureauBounds::sixteen, (x, v) -> x.foresee(30, v));
        sentence("23: IllegalArgumentException is named first");
        for (int rounds : new int[] {-1, 0, 31, 1000}) {
            refused("no clients, rounds " + rounds, ARGUMENT, EMPTY, x -> x.foresee(rounds, 0));
            refused("client -1, rounds " + rounds, ARGUMENT, SOME, x -> x.foresee(rounds, -1));
            refused("client 6, rounds " + rounds, ARGUMENT, FULL, x -> x.foresee(rounds, 6));
        }
        sentence("23: how many coins this one has behind so many rounds, if nothing is done");
        bounds("two for each round, until none is left", ARGUMENT, six, 1, 30, (x, v) -> x.foresee(v, 2),
            v -> 52 - Math.min(4 * v, 32));
        due("down to no coins", "1 1 0 0", ClipBureauBounds::sixteen, x -> {
            client(client(x, 5, 0), 4, 0);
            return all(x.foresee(1, 0), x.foresee(30, 0), x.foresee(1, 1), x.foresee(30, 1));
        });
        due("no articles", "9 9", ClipBureauBounds::sixClients, x -> all(x.foresee(1, 0), x.foresee(30, 5)));
        due("as it comes then", "0 2 0 1 0 0", last,
            x -> all(x.pass(29), x.about(0, 0), x.foresee(1, 0), x.pass(1), x.about(0, 0), x.foresee(30, 0)));
    }

    private static void promise24() {
        Made one = () -> client(bureau(row(0, 0)), 2, 20, 0);
        sentence("24: 0 if now");
        due("a price of 3 with coins of 2 and 3", "0 -1", one, x -> all(x.until(), behind(x.pay(0, 1), x.until())));
        due("a price of 2 with coins of 0, 1 and 2", "0 0 -1", EMPTY, x -> {
            client(bureauInto(x, row()), 0, 0);
            return all(x.until(), each(2, i -> behind(x.pay(0, 1), x.until())));
        });
        for (int client = 0; client < 6; client++) {
            int poor = client;
            due("client " + poor + " alone", 0, EMPTY, x -> {
                x.print();
                each(6, c -> client(x, c == poor ? 1 : 2, 0));
                return x.until();
            });
        }
        due("all six can pay", -1, ClipBureauBounds::sixteen, x -> {
            again(6, () -> client(x, 32, 0));
            return x.until();
        });
        due("the best one is too dear, a cheaper one is not", "45 0 0", EMPTY, x -> {
            client(bureauInto(x, row(), row(0, 0, 0)), 3, 0, 0);
            return all(x.score(0, 1), x.score(0, 0), x.until());
        });
        sentence("24: a fit article: none that is not fit, and none that was sent");
        due("below the bar", "-1 0", EMPTY, x -> {
            client(bureauInto(x, row(0)), 0, 11, 0);
            return all(x.until(), behind(x.setBar(0, 10), x.until()));
        });
        due("sent", "0 -1", EMPTY, x -> {
            client(bureauInto(x, row(0)), 2, 0, 0);
            return all(x.send(0), x.until());
        });
        // 40 can't be reached: whoever can pay its best fit article is sent it in the round, and there are but sixteen
        sentence("24: Returns behind how many rounds");
        for (int coins = 0; coins <= 40; coins++) {
            int n = coins;
            due("sixteen for 2 each with coins " + n, n >= 32 ? -1 : n < 2 ? 0 : (n / 2 + 1) / 2,
                ClipBureauBounds::sixteen, x -> client(x, n, 0).until());
        }
        due("the first of several", "2 2 1 0", ClipBureauBounds::sixteen, x -> {
            client(client(client(x, 99, 0), 9, 0), 8, 0);
            return all(x.until(), behind(x.pay(2, 4), x.until()), each(2, i -> behind(x.pass(1), x.until())));
        });
        sentence("24: -1 if not by then");
        due("nothing", -1, EMPTY, ClipBureau::until);
        due("no clients", -1, ClipBureauBounds::sixteen, ClipBureau::until);
        due("no articles", -1, ClipBureauBounds::sixClients, ClipBureau::until);
        due("it is too old by then", "-1 1", EMPTY, x -> {
            client(bureauInto(x, row(0, 0, 0), row(0, 0, 0), row(2)), 3, 37, 0);
            return all(x.until(), behind(x.setBar(0, 36), x.until()));
        });
        due("its price has fallen by then", "20 2 -1", EMPTY, x -> {
            // prices of 3 and 3 with coins of 5: the second is refused in the round, and costs 2 behind it
            client(bureauInto(x, row(0, 0), row(0, 0)), 5, 0, 0);
            return all(x.score(0, 1), x.foresee(1, 0), x.until());
        });
        unchanged("until", SOME, ClipBureau::until);
        unchanged("until of a full bureau", FULL, ClipBureau::until);
    }

    private static void promise25() {
        sentence("25: 0 without any");
        due("nothing", 0.0, EMPTY, ClipBureau::mean);
        due("as much as there may be", 0.0, FULL, ClipBureau::mean);
        due("nothing was sent", "-1 0.0", EMPTY, x -> {
            client(bureauInto(x, row()), 1, 0);
            return all(x.send(0), x.mean());
        });
        sentence("25: Returns the mean of the prices that were paid");
        due("one", "0 3.0", EMPTY, x -> {
            client(bureauInto(x, row(0, 0)), 9, 0, 0);
            return all(x.send(0), x.mean());
        });
        due("2 and 3", "3.0 2.5", EMPTY, x -> {
            client(bureauInto(x, row(0, 0), row()), 9, 0, 0);
            return all(behind(x.send(0), x.mean()), behind(x.send(0), x.mean()));
        });
        due("4, 2 and 2", all(4.0, 3.0, 8.0 / 3), EMPTY, x -> {
            client(bureauInto(x, row(0, 0), row(), row()), 9, 0, 0);
            return each(3, i -> behind(x.send(0), x.mean()));
        });
        due("one for 3, and two of another client for 2", 7.0 / 3, EMPTY, x -> {
            client(client(bureauInto(x, row(0, 0), row()), 9, 1, 0), 9, 0);
            x.pass(1);
            return x.mean();
        });
        due("as many as there may be", 2.0, ClipBureauBounds::sixteen, x -> {
            again(6, () -> client(x, 99, 0));
            x.pass(8);
            return x.mean();
        });
        due("the greatest", 78.0, EMPTY, x -> {
            client(bureauInto(x, row(0, 0, 0, 2, 2, 2, 4, 4, 4, 6, 6, 6)), 99, 20, 0, 1, 2, 3);
            again(15, x::print);
            x.send(0);
            return x.mean();
        });
    }

    private static void promise26() {
        sentence("26: d starts with 1451 ... which wraps around as a 64-bit integer");
        due("nothing", digestOf(EMPTY, 0), EMPTY, ClipBureau::digest);
        due("something", digestOf(SOME, 1), SOME, ClipBureau::digest);
        due("as much as there may be", digestOf(FULL, 0), FULL, ClipBureau::digest);
        due("articles alone", digestOf(ClipBureauBounds::sixteen, 0), ClipBureauBounds::sixteen, ClipBureau::digest);
        due("clients alone", digestOf(ClipBureauBounds::fiveStems, 0), ClipBureauBounds::fiveStems, ClipBureau::digest);
        sentence("26: all in their order");
        due("two words the other way round", false, EMPTY,
            x -> bureau(row(0, 1)).digest() == bureau(row(1, 0)).digest());
        due("two stems the other way round", false, EMPTY,
            x -> client(new ClipBureau(), 1, 1, 0, 1).digest() == client(new ClipBureau(), 1, 1, 1, 0).digest());
        due("a stem set and set back", true, EMPTY, x -> {
            long before = x.digest();
            x.setStem(39, 0);
            long other = x.digest();
            x.setStem(39, 19);
            return before != other && before == x.digest();
        });
    }

    /** The digest of all that the other calls tell, by numbers without a bound, cut to 64 bits in the end. */
    private static long digestOf(Made made, int stemsSet) {
        List<Integer> numbers = new ArrayList<>();
        ClipBureau x = made.object();
        for (int what = 0; what < 7; what++) {
            numbers.add(x.count(what));
        }
        for (int word = 0; word < 40; word++) {
            numbers.add(stemsSet == 1 && word == 5 ? 7 : word / 2);
        }
        int articles = x.count(0);
        for (int article = 0; article < articles; article++) {
            articleNumbers(numbers, made.object(), article);
        }
        for (int client = 0; client < x.count(1); client++) {
            clientNumbers(numbers, made.object(), client, articles);
        }
        BigInteger d = BigInteger.valueOf(1451);
        for (int number : numbers) {
            d = d.multiply(BigInteger.valueOf(31)).add(BigInteger.valueOf(number));
        }
        return d.longValue();
    }

    private static void articleNumbers(List<Integer> numbers, ClipBureau x, int article) {
        for (int what = 0; what < 4; what++) {
            numbers.add(x.told(article, what));
        }
        int words = x.told(article, 0);
        for (int place = 0; place < words; place++) {
            numbers.add(x.word(article, place));
        }
    }

    private static void clientNumbers(List<Integer> numbers, ClipBureau x, int client, int articles) {
        for (int what = 0; what < 6; what++) {
            numbers.add(x.about(client, what));
        }
        int stems = x.about(client, 1);
        for (int place = 0; place < stems; place++) {
            numbers.add(x.stem(client, place));
        }
        for (int article = 0; article < articles; article++) {
            numbers.add(x.score(client, article));
        }
    }

    private static void askingChangesNothing() {
        sentence("Nothing is promised beyond the answers and state changes described: what is asked changes nothing");
        for (Made made : new Made[] {SOME, FULL}) {
            unchanged("told", made, x -> each(4, what -> x.told(0, what)));
            unchanged("word", made, x -> x.word(0, 0));
            unchanged("about", made, x -> each(6, what -> x.about(1, what)));
            unchanged("stem", made, x -> x.stem(1, 1));
            unchanged("count", made, x -> each(7, x::count));
            unchanged("rarity", made, x -> x.rarity(19));
            unchanged("score", made, x -> x.score(1, 2));
            unchanged("fit", made, x -> x.fit(0, 0));
            unchanged("alike", made, x -> x.alike(0, 1));
            unchanged("advise (nothing is changed)", made, x -> x.advise(1));
            unchanged("foresee (nothing is changed)", made, x -> x.foresee(30, 0));
            unchanged("until (nothing is changed)", made, ClipBureau::until);
            unchanged("mean", made, ClipBureau::mean);
            unchanged("digest", made, ClipBureau::digest);
        }
        unchanged("foresee, with a round in which all are sent to", FULL, x -> x.foresee(1, 5));
    }
}
