import java.util.ArrayList;
import java.util.HashMap;
import java.util.List;
import java.util.Map;
import java.util.Random;

/**
 * Long runs of calls, the same ones on a ClipBureau and on a plain model of the document that shares
 * no code with it: every answer, every exception and the digests in between must be the same.
 */
public final class ClipBureauModel {
    private static final int RUNS = 600;
    // with the digests these are the 512 calls of one object; what it would answer behind them is free
    private static final int CALLS = 384;
    private static final int CALLS_PER_DIGEST = 3;
    private static final String[] NAMES = {
        "setStem", "print", "write", "strike", "client", "want", "drop", "setBar", "pay", "send", "pass", "told",
        "word", "about", "stem", "count", "rarity", "score", "fit", "alike", "advise", "foresee", "until", "mean",
        "digest"};
    // how often each of these is called, so that a bureau fills up before much is asked of it
    private static final int[] WEIGHTS = {
        4, 5, 40, 4, 3, 8, 4, 6, 8, 8, 5, 4, 2, 8, 2, 6, 3, 6, 6, 4, 8, 6, 6, 2, 1};

    public static void main(String[] args) {
        int wrong = 0;
        for (int run = 0; run < RUNS && wrong < 5; run++) {
            wrong += oneRun(run) ? 0 : 1;
        }
        System.out.println(wrong == 0 ? RUNS + " runs are as the model's" : "some runs are not as the model's");
        if (wrong != 0) {
            System.exit(1);
        }
    }

    private static boolean oneRun(int run) {
        Random random = new Random(run);
        ClipBureau bureau = new ClipBureau();
        Model model = new Model();
        // some runs keep few words, so that articles are alike and scores are equal
        int words = run % 3 == 0 ? 8 : 40;
        for (int i = 0; i < CALLS; i++) {
            String name = pick(random);
            int a = argument(random, name, 0, words);
            int b = argument(random, name, 1, words);
            String due = answer(model, name, a, b);
            String got = answer(bureau, name, a, b);
            if (!due.equals(got)) {
                System.out.println("run " + run + ", call " + i + ": " + name + "(" + a + ", " + b + ") answered "
                    + got + ", due is " + due);
                return false;
            }
            if (i % CALLS_PER_DIGEST == 0 && bureau.digest() != model.digest()) {
                System.out.println("run " + run + ", call " + i + ": the digest behind " + name + "(" + a + ", " + b
                    + ") is not as the model's");
                return false;
            }
        }
        return true;
    }

    private static String pick(Random random) {
        int sum = 0;
        for (int weight : WEIGHTS) {
            sum += weight;
        }
        int at = random.nextInt(sum);
        int i = 0;
        while (at >= WEIGHTS[i]) {
            at -= WEIGHTS[i];
            i++;
        }
        return NAMES[i];
    }

    /** An argument that is mostly in bounds, often at an edge, and now and then far out. */
    private static int argument(Random random, String name, int which, int words) {
        if (random.nextInt(60) == 0) {
            int[] odd = {-1, Integer.MIN_VALUE, Integer.MAX_VALUE, 6, 12, 16, 20, 31, 40, 1000};
            return odd[random.nextInt(odd.length)];
        }
        switch (name + which) {
            case "setStem0": case "write1":
                return random.nextInt(words);
            case "setStem1": case "want1": case "drop1": case "rarity0":
                return random.nextInt(words / 2);
            case "write0": case "strike0": case "told0": case "word0": case "score1": case "alike0": case "alike1":
                return random.nextInt(random.nextBoolean() ? 4 : 16);
            case "strike1": case "word1":
                return random.nextInt(6);
            case "client0":
                return new int[] {0, 3, 20, 100, 999}[random.nextInt(5)];
            case "want0": case "drop0": case "setBar0": case "pay0": case "send0": case "about0": case "stem0":
            case "score0": case "fit0": case "advise0": case "foresee1":
                return random.nextInt(random.nextBoolean() ? 3 : 6);
            case "setBar1":
                return new int[] {0, 0, 1, 10, 20, 30, 60, 100, 999}[random.nextInt(9)];
            case "pay1":
                return new int[] {1, 2, 5, 10, 998, 999}[random.nextInt(6)];
            case "pass0":
                return random.nextInt(12) == 0 ? 30 : 1 + random.nextInt(2);
            case "foresee0":
                return 1 + random.nextInt(30);
            case "told1":
                return random.nextInt(4);
            case "about1":
                return random.nextInt(6);
            case "stem1": case "fit1":
                return random.nextInt(5);
            case "count0":
                return random.nextInt(7);
            default:
                return 0;
        }
    }

    private static String answer(ClipBureau x, String name, int a, int b) {
        try {
            switch (name) {
                case "setStem": return "" + x.setStem(a, b);
                case "print": return "" + x.print();
                case "write": return "" + x.write(a, b);
                case "strike": return "" + x.strike(a, b);
                case "client": return "" + x.client(a);
                case "want": return "" + x.want(a, b);
                case "drop": return "" + x.drop(a, b);
                case "setBar": return "" + x.setBar(a, b);
                case "pay": return "" + x.pay(a, b);
                case "send": return "" + x.send(a);
                case "pass": return "" + x.pass(a);
                case "told": return "" + x.told(a, b);
                case "word": return "" + x.word(a, b);
                case "about": return "" + x.about(a, b);
                case "stem": return "" + x.stem(a, b);
                case "count": return "" + x.count(a);
                case "rarity": return "" + x.rarity(a);
                case "score": return "" + x.score(a, b);
                case "fit": return "" + x.fit(a, b);
                case "alike": return "" + x.alike(a, b);
                case "advise": return "" + x.advise(a);
                case "foresee": return "" + x.foresee(a, b);
                case "until": return "" + x.until();
                case "mean": return "" + x.mean();
                default: return "" + x.digest();
            }
        } catch (RuntimeException e) {
            return e.getClass().getName();
        }
    }

    private static String answer(Model x, String name, int a, int b) {
        try {
            switch (name) {
                case "setStem": return "" + x.setStem(a, b);
                case "print": return "" + x.print();
                case "write": return "" + x.write(a, b);
                case "strike": return "" + x.strike(a, b);
                case "client": return "" + x.client(a);
                case "want": return "" + x.want(a, b);
                case "drop": return "" + x.drop(a, b);
                case "setBar": return "" + x.setBar(a, b);
                case "pay": return "" + x.pay(a, b);
                case "send": return "" + x.send(a);
                case "pass": return "" + x.pass(a);
                case "told": return "" + x.told(a, b);
                case "word": return "" + x.word(a, b);
                case "about": return "" + x.about(a, b);
                case "stem": return "" + x.stem(a, b);
                case "count": return "" + x.count(a);
                case "rarity": return "" + x.rarity(a);
                case "score": return "" + x.score(a, b);
                case "fit": return "" + x.fit(a, b);
                case "alike": return "" + x.alike(a, b);
                case "advise": return "" + x.advise(a);
                case "foresee": return "" + x.foresee(a, b);
                case "until": return "" + x.until();
                case "mean": return "" + x.mean();
                default: return "" + x.digest();
            }
        } catch (RuntimeException e) {
            return e.getClass().getName();
        }
    }

    private static final class Paper {
        final List<Integer> words = new ArrayList<>();
        int age;
    }

    private static final class Reader {
        int coins;
        int bar = 20;
        final List<Integer> stems = new ArrayList<>();
        final Map<Paper, Integer> received = new HashMap<>();
    }

    /** The document, word by word, without regard to speed. */
    private static final class Model {
        final int[] stemOf = new int[40];
        final List<Paper> papers = new ArrayList<>();
        final List<Reader> readers = new ArrayList<>();
        int rounds;

        Model() {
            for (int i = 0; i < 40; i++) {
                stemOf[i] = i / 2;
            }
        }

        static void within(int x, int bound) {
            if (x < 0 || x >= bound) {
                throw new IndexOutOfBoundsException();
            }
        }

        static void proper(boolean is) {
            if (!is) {
                throw new IllegalArgumentException();
            }
        }

        static void possible(boolean is) {
            if (!is) {
                throw new IllegalStateException();
            }
        }

        int setStem(int word, int stem) {
            within(word, 40);
            within(stem, 20);
            int old = stemOf[word];
            stemOf[word] = stem;
            return old;
        }

        int print() {
            possible(papers.size() < 16);
            papers.add(new Paper());
            return papers.size() - 1;
        }

        int write(int article, int word) {
            within(article, papers.size());
            within(word, 40);
            possible(papers.get(article).words.size() < 12);
            papers.get(article).words.add(word);
            return papers.get(article).words.size();
        }

        int strike(int article, int place) {
            within(article, papers.size());
            within(place, papers.get(article).words.size());
            return papers.get(article).words.remove(place);
        }

        int client(int coins) {
            proper(coins >= 0 && coins <= 999);
            possible(readers.size() < 6);
            Reader reader = new Reader();
            reader.coins = coins;
            readers.add(reader);
            return readers.size() - 1;
        }

        int want(int client, int stem) {
            within(client, readers.size());
            within(stem, 20);
            Reader reader = readers.get(client);
            possible(reader.stems.size() < 5 && !reader.stems.contains(stem));
            reader.stems.add(stem);
            return reader.stems.size();
        }

        int drop(int client, int stem) {
            within(client, readers.size());
            within(stem, 20);
            int place = readers.get(client).stems.indexOf(stem);
            possible(place >= 0);
            readers.get(client).stems.remove(place);
            return place;
        }

        int setBar(int client, int bar) {
            within(client, readers.size());
            proper(bar >= 0 && bar <= 999);
            int old = readers.get(client).bar;
            readers.get(client).bar = bar;
            return old;
        }

        int pay(int client, int coins) {
            within(client, readers.size());
            proper(coins >= 1 && coins <= 999);
            Reader reader = readers.get(client);
            reader.coins += coins;
            if (reader.coins > 9999) {
                reader.coins = 9999;
            }
            return reader.coins;
        }

        int often(Paper paper, int stem) {
            int n = 0;
            for (int word : paper.words) {
                n += stemOf[word] == stem ? 1 : 0;
            }
            return n;
        }

        int rarity(int stem) {
            within(stem, 20);
            int have = 0;
            for (Paper paper : papers) {
                have += often(paper, stem) > 0 ? 1 : 0;
            }
            return 10 * (papers.size() + 1) / (have + 1);
        }

        int points(Reader reader, Paper paper) {
            int sum = 0;
            boolean all = true;
            for (int stem : reader.stems) {
                int often = often(paper, stem);
                all = all && often > 0;
                sum += (often > 3 ? 3 : often) * rarity(stem);
            }
            if (all && reader.stems.size() > 1) {
                sum = sum + sum / 2;
            }
            sum -= 3 * paper.age;
            return sum < 0 ? 0 : sum;
        }

        List<Paper> fits(Reader reader) {
            List<Paper> fits = new ArrayList<>();
            for (Paper paper : papers) {
                if (!reader.received.containsKey(paper) && points(reader, paper) >= reader.bar) {
                    fits.add(paper);
                }
            }
            // a stable sort keeps the smallest number first among equals
            fits.sort((p, q) -> points(reader, q) - points(reader, p));
            return fits;
        }

        int price(Reader reader, Paper paper) {
            return 2 + points(reader, paper) / 20;
        }

        int send(int client) {
            within(client, readers.size());
            Reader reader = readers.get(client);
            List<Paper> fits = fits(reader);
            if (fits.isEmpty() || reader.coins < price(reader, fits.get(0))) {
                return -1;
            }
            int price = price(reader, fits.get(0));
            reader.coins -= price;
            reader.received.put(fits.get(0), price);
            return papers.indexOf(fits.get(0));
        }

        void round() {
            for (int i = 0; i < readers.size(); i++) {
                send(i);
                send(i);
            }
            for (Paper paper : papers) {
                paper.age++;
            }
            rounds++;
        }

        int pass(int n) {
            proper(n >= 1 && n <= 30);
            int before = count(5);
            for (int i = 0; i < n; i++) {
                round();
            }
            return count(5) - before;
        }

        int told(int article, int what) {
            within(article, papers.size());
            within(what, 4);
            Paper paper = papers.get(article);
            int sent = 0;
            for (Reader reader : readers) {
                sent += reader.received.containsKey(paper) ? 1 : 0;
            }
            int different = 0;
            for (int stem = 0; stem < 20; stem++) {
                different += often(paper, stem) > 0 ? 1 : 0;
            }
            return new int[] {paper.words.size(), different, paper.age, sent}[what];
        }

        int word(int article, int place) {
            within(article, papers.size());
            within(place, papers.get(article).words.size());
            return papers.get(article).words.get(place);
        }

        static int spent(Reader reader) {
            int sum = 0;
            for (int price : reader.received.values()) {
                sum += price;
            }
            return sum;
        }

        int about(int client, int what) {
            within(client, readers.size());
            within(what, 6);
            Reader reader = readers.get(client);
            return new int[] {reader.coins, reader.stems.size(), reader.bar, reader.received.size(), spent(reader),
                fits(reader).size()}[what];
        }

        int stem(int client, int place) {
            within(client, readers.size());
            within(place, readers.get(client).stems.size());
            return readers.get(client).stems.get(place);
        }

        int count(int what) {
            within(what, 7);
            int words = 0;
            for (Paper paper : papers) {
                words += paper.words.size();
            }
            int different = 0;
            for (int stem = 0; stem < 20; stem++) {
                boolean any = false;
                for (Paper paper : papers) {
                    any = any || often(paper, stem) > 0;
                }
                different += any ? 1 : 0;
            }
            int sent = 0;
            int spent = 0;
            for (Reader reader : readers) {
                sent += reader.received.size();
                spent += spent(reader);
            }
            return new int[] {papers.size(), readers.size(), words, different, rounds, sent, spent}[what];
        }

        int score(int client, int article) {
            within(client, readers.size());
            within(article, papers.size());
            return points(readers.get(client), papers.get(article));
        }

        int fit(int client, int place) {
            within(client, readers.size());
            List<Paper> fits = fits(readers.get(client));
            within(place, fits.size());
            return papers.indexOf(fits.get(place));
        }

        int alike(int a, int b) {
            within(a, papers.size());
            within(b, papers.size());
            Paper p = papers.get(a);
            Paper q = papers.get(b);
            if (p.words.isEmpty() && q.words.isEmpty()) {
                return 0;
            }
            int sum = 0;
            for (int stem = 0; stem < 20; stem++) {
                int less = often(p, stem) < often(q, stem) ? often(p, stem) : often(q, stem);
                sum += 2 * less;
            }
            return sum * 100 / (p.words.size() + q.words.size());
        }

        int advise(int client) {
            within(client, readers.size());
            Reader reader = readers.get(client);
            if (reader.stems.size() == 5) {
                return -1;
            }
            int best = -1;
            int most = -1;
            for (int stem = 0; stem < 20; stem++) {
                if (reader.stems.contains(stem)) {
                    continue;
                }
                Model trial = copy();
                trial.want(client, stem);
                List<Paper> fits = trial.fits(trial.readers.get(client));
                if (!fits.isEmpty() && trial.points(trial.readers.get(client), fits.get(0)) > most) {
                    most = trial.points(trial.readers.get(client), fits.get(0));
                    best = stem;
                }
            }
            return best;
        }

        int foresee(int n, int client) {
            proper(n >= 1 && n <= 30);
            within(client, readers.size());
            Model trial = copy();
            trial.pass(n);
            return trial.about(client, 0);
        }

        int until() {
            Model trial = copy();
            for (int n = 0; n <= 40; n++) {
                for (Reader reader : trial.readers) {
                    for (Paper paper : trial.fits(reader)) {
                        if (trial.price(reader, paper) > reader.coins) {
                            return n;
                        }
                    }
                }
                trial.round();
            }
            return -1;
        }

        double mean() {
            return count(5) == 0 ? 0 : (double) count(6) / count(5);
        }

        long digest() {
            List<Integer> all = new ArrayList<>();
            for (int what = 0; what < 7; what++) {
                all.add(count(what));
            }
            for (int stem : stemOf) {
                all.add(stem);
            }
            for (int article = 0; article < papers.size(); article++) {
                for (int what = 0; what < 4; what++) {
                    all.add(told(article, what));
                }
                all.addAll(papers.get(article).words);
            }
            for (int client = 0; client < readers.size(); client++) {
                for (int what = 0; what < 6; what++) {
                    all.add(about(client, what));
                }
                all.addAll(readers.get(client).stems);
                for (int article = 0; article < papers.size(); article++) {
                    all.add(score(client, article));
                }
            }
            long d = 1451;
            for (int x : all) {
                d = d * 31 + x;
            }
            return d;
        }

        Model copy() {
            Model copy = new Model();
            System.arraycopy(stemOf, 0, copy.stemOf, 0, 40);
            Map<Paper, Paper> same = new HashMap<>();
            for (Paper paper : papers) {
                Paper other = new Paper();
                other.words.addAll(paper.words);
                other.age = paper.age;
                copy.papers.add(other);
                same.put(paper, other);
            }
            for (Reader reader : readers) {
                Reader other = new Reader();
                other.coins = reader.coins;
                other.bar = reader.bar;
                other.stems.addAll(reader.stems);
                for (Paper paper : reader.received.keySet()) {
                    other.received.put(same.get(paper), reader.received.get(paper));
                }
                copy.readers.add(other);
            }
            copy.rounds = rounds;
            return copy;
        }
    }
}
