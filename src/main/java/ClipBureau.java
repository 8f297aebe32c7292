import java.util.Arrays;

/**
 * A clipping bureau of newspapers: articles are rows of words, words have stems, clients want stems
 * and are sent the articles that fit best, and billed.
 */
public final class ClipBureau {
    private static final int WORDS = 40;
    private static final int STEMS = 20;
    private static final int ARTICLES = 16;
    private static final int LENGTH = 12;
    private static final int CLIENTS = 6;
    private static final int WANTS = 5;
    private static final int COUNTED_TIMES = 3;
    private static final int LOSS_PER_ROUND = 3;
    private static final int FIRST_BAR = 20;
    private static final int MOST_BAR = 999;
    private static final int MOST_AT_ONCE = 999;
    private static final int MOST_COINS = 9999;
    private static final int MOST_ROUNDS = 30;
    private static final int FARTHEST = 40;
    private static final int TOLD = 4;
    private static final int ABOUT = 6;
    private static final int COUNTS = 7;
    private static final int NONE = -1;

    private final Press press;
    private final Orders orders;
    private final Ledger now;
    /** What would be is played here; made once, since all calls share one room. */
    private final Ledger later;
    /** The stems of a client and one more, for advise. */
    private final int[] tryout;

    public ClipBureau() {
        press = new Press();
        orders = new Orders();
        now = new Ledger();
        later = new Ledger();
        tryout = new int[WANTS];
    }

    // ---- words and articles

    public int setStem(int word, int stem) throws IndexOutOfBoundsException {
        checkWord(word);
        checkStem(stem);
        int before = press.stems[word];
        press.stems[word] = stem;
        press.recount();
        return before;
    }

    public int print() throws IllegalStateException {
        if (press.articles >= ARTICLES) {
            throw new IllegalStateException("there are 16 articles");
        }
        press.articles++;
        return press.articles - 1;
    }

    public int write(int article, int word) throws IndexOutOfBoundsException, IllegalStateException {
        checkArticle(article);
        checkWord(word);
        int length = press.lengths[article];
        if (length >= LENGTH) {
            throw new IllegalStateException("the article has 12 words");
        }
        press.words[article][length] = word;
        press.lengths[article] = length + 1;
        press.recount();
        return length + 1;
    }

    public int strike(int article, int place) throws IndexOutOfBoundsException {
        checkArticle(article);
        checkPlace(place, press.lengths[article]);
        int word = press.words[article][place];
        press.lengths[article] = removeAt(press.words[article], press.lengths[article], place);
        press.recount();
        return word;
    }

    // ---- clients

    public int client(int coins) throws IllegalArgumentException, IllegalStateException {
        if (coins < 0 || coins > MOST_AT_ONCE) {
            throw new IllegalArgumentException("coins are 0 to 999");
        }
        int number = orders.clients;
        if (number >= CLIENTS) {
            throw new IllegalStateException("there are 6 clients");
        }
        now.coins[number] = coins;
        orders.clients = number + 1;
        return number;
    }

    public int want(int client, int stem) throws IndexOutOfBoundsException, IllegalStateException {
        checkClient(client);
        checkStem(stem);
        int size = orders.sizes[client];
        if (size >= WANTS) {
            throw new IllegalStateException("the client wants 5 stems");
        }
        if (orders.placeOf(client, stem) != NONE) {
            throw new IllegalStateException("the client wants this stem already");
        }
        orders.wants[client][size] = stem;
        orders.sizes[client] = size + 1;
        return size + 1;
    }

    public int drop(int client, int stem) throws IndexOutOfBoundsException, IllegalStateException {
        checkClient(client);
        checkStem(stem);
        int place = orders.placeOf(client, stem);
        if (place == NONE) {
            throw new IllegalStateException("the client does not want this stem");
        }
        orders.sizes[client] = removeAt(orders.wants[client], orders.sizes[client], place);
        return place;
    }

    public int setBar(int client, int bar) throws IndexOutOfBoundsException, IllegalArgumentException {
        checkClient(client);
        if (bar < 0 || bar > MOST_BAR) {
            throw new IllegalArgumentException("a bar is 0 to 999");
        }
        int before = orders.bars[client];
        orders.bars[client] = bar;
        return before;
    }

    public int pay(int client, int coins) throws IndexOutOfBoundsException, IllegalArgumentException {
        checkClient(client);
        if (coins < 1 || coins > MOST_AT_ONCE) {
            throw new IllegalArgumentException("coins to pay are 1 to 999");
        }
        now.coins[client] = Math.min(now.coins[client] + coins, MOST_COINS);
        return now.coins[client];
    }

    public int send(int client) throws IndexOutOfBoundsException {
        checkClient(client);
        return sendTo(now, client);
    }

    public int pass(int rounds) throws IllegalArgumentException {
        checkRounds(rounds);
        int before = now.sentInAll();
        playRounds(now, rounds);
        return now.sentInAll() - before;
    }

    // ---- what is there

    public int told(int article, int what) throws IndexOutOfBoundsException {
        checkArticle(article);
        checkWhat(what, TOLD);
        return tellOfArticle(article, what);
    }

    public int word(int article, int place) throws IndexOutOfBoundsException {
        checkArticle(article);
        checkPlace(place, press.lengths[article]);
        return press.words[article][place];
    }

    public int about(int client, int what) throws IndexOutOfBoundsException {
        checkClient(client);
        checkWhat(what, ABOUT);
        return tellOfClient(client, what);
    }

    public int stem(int client, int place) throws IndexOutOfBoundsException {
        checkClient(client);
        checkPlace(place, orders.sizes[client]);
        return orders.wants[client][place];
    }

    public int count(int what) throws IndexOutOfBoundsException {
        checkWhat(what, COUNTS);
        return tellOfAll(what);
    }

    // ---- scores

    public int rarity(int stem) throws IndexOutOfBoundsException {
        checkStem(stem);
        return press.rarityOf(stem);
    }

    public int score(int client, int article) throws IndexOutOfBoundsException {
        checkClient(client);
        checkArticle(article);
        return scoreFor(now, client, article);
    }

    public int fit(int client, int place) throws IndexOutOfBoundsException {
        checkClient(client);
        checkPlace(place, fitArticles(client));
        return fitArticleAt(client, place);
    }

    public int alike(int a, int b) throws IndexOutOfBoundsException {
        checkArticle(a);
        checkArticle(b);
        int words = press.lengths[a] + press.lengths[b];
        if (words <= 0) {
            return 0;
        }
        return 2 * press.shared(a, b) * 100 / words;
    }

    // ---- what would be

    public int advise(int client) throws IndexOutOfBoundsException {
        checkClient(client);
        int best = NONE;
        int most = NONE;
        for (int stem = 0; stem < STEMS; stem++) {
            int top = topScoreWith(client, stem);
            if (top > most) {
                most = top;
                best = stem;
            }
        }
        return best;
    }

    public int foresee(int rounds, int client) throws IllegalArgumentException, IndexOutOfBoundsException {
        checkRounds(rounds);
        checkClient(client);
        later.copyFrom(now);
        playRounds(later, rounds);
        return later.coins[client];
    }

    public int until() {
        later.copyFrom(now);
        for (int rounds = 0; rounds < FARTHEST; rounds++) {
            if (someoneIsShort(later)) {
                return rounds;
            }
            playRounds(later, 1);
        }
        return someoneIsShort(later) ? FARTHEST : NONE;
    }

    public double mean() {
        int sent = now.sentInAll();
        if (sent <= 0) {
            return 0.0;
        }
        return (double) now.paidInAll() / sent;
    }

    public long digest() {
        long d = 1451;
        for (int what = 0; what < COUNTS; what++) {
            d = mix(d, tellOfAll(what));
        }
        for (int word = 0; word < WORDS; word++) {
            d = mix(d, press.stems[word]);
        }
        for (int article = 0; article < press.articles; article++) {
            d = mixArticle(d, article);
        }
        for (int client = 0; client < orders.clients; client++) {
            d = mixClient(d, client);
        }
        return d;
    }

    private long mixArticle(long before, int article) {
        long d = before;
        for (int what = 0; what < TOLD; what++) {
            d = mix(d, tellOfArticle(article, what));
        }
        for (int place = 0; place < press.lengths[article]; place++) {
            d = mix(d, press.words[article][place]);
        }
        return d;
    }

    private long mixClient(long before, int client) {
        long d = before;
        for (int what = 0; what < ABOUT; what++) {
            d = mix(d, tellOfClient(client, what));
        }
        for (int place = 0; place < orders.sizes[client]; place++) {
            d = mix(d, orders.wants[client][place]);
        }
        for (int article = 0; article < press.articles; article++) {
            d = mix(d, scoreFor(now, client, article));
        }
        return d;
    }

    private static long mix(long d, int x) {
        return d * 31 + x;
    }

    // ---- arguments

    private static void checkWord(int word) {
        if (word < 0 || word >= WORDS) {
            throw new IndexOutOfBoundsException("words are 0 to 39");
        }
    }

    private static void checkStem(int stem) {
        if (stem < 0 || stem >= STEMS) {
            throw new IndexOutOfBoundsException("stems are 0 to 19");
        }
    }

    private void checkArticle(int article) {
        if (article < 0 || article >= press.articles) {
            throw new IndexOutOfBoundsException("no such article");
        }
    }

    private void checkClient(int client) {
        if (client < 0 || client >= orders.clients) {
            throw new IndexOutOfBoundsException("no such client");
        }
    }

    private static void checkPlace(int place, int size) {
        if (place < 0 || place >= size) {
            throw new IndexOutOfBoundsException("no such place");
        }
    }

    private static void checkWhat(int what, int kinds) {
        if (what < 0 || what >= kinds) {
            throw new IndexOutOfBoundsException("nothing is told under this number");
        }
    }

    private static void checkRounds(int rounds) {
        if (rounds < 1 || rounds > MOST_ROUNDS) {
            throw new IllegalArgumentException("rounds are 1 to 30");
        }
    }

    // ---- what is told

    private int tellOfArticle(int article, int what) {
        switch (what) {
            case 0:
                return press.lengths[article];
            case 1:
                return press.stemsOf(article);
            case 2:
                return now.ages[article];
            default:
                return now.receivers(article);
        }
    }

    private int tellOfClient(int client, int what) {
        switch (what) {
            case 0:
                return now.coins[client];
            case 1:
                return orders.sizes[client];
            case 2:
                return orders.bars[client];
            case 3:
                return Integer.bitCount(now.sent[client]);
            case 4:
                return now.paid[client];
            default:
                return fitArticles(client);
        }
    }

    private int tellOfAll(int what) {
        switch (what) {
            case 0:
                return press.articles;
            case 1:
                return orders.clients;
            case 2:
                return press.wordsInAll();
            case 3:
                return press.stemsInAll();
            case 4:
                return now.rounds;
            case 5:
                return now.sentInAll();
            default:
                return now.paidInAll();
        }
    }

    // ---- scores and fit articles

    private int scoreFor(Ledger ledger, int client, int article) {
        return press.scoreOf(article, orders.wants[client], orders.sizes[client], ledger.ages[article]);
    }

    private boolean isFit(Ledger ledger, int client, int article, int points) {
        return points >= orders.bars[client] && !ledger.wasSent(client, article);
    }

    private int fitArticles(int client) {
        int fits = 0;
        for (int article = 0; article < press.articles; article++) {
            int points = scoreFor(now, client, article);
            if (isFit(now, client, article, points)) {
                fits++;
            }
        }
        return fits;
    }

    private int bestFit(Ledger ledger, int client) {
        int best = NONE;
        int most = NONE;
        for (int article = 0; article < press.articles; article++) {
            int points = scoreFor(ledger, client, article);
            if (points > most && isFit(ledger, client, article, points)) {
                most = points;
                best = article;
            }
        }
        return best;
    }

    private int fitArticleAt(int client, int place) {
        for (int article = 0; article < press.articles; article++) {
            int points = scoreFor(now, client, article);
            if (isFit(now, client, article, points) && fitArticlesAhead(client, article, points) == place) {
                return article;
            }
        }
        return NONE;
    }

    private int fitArticlesAhead(int client, int article, int points) {
        int ahead = 0;
        for (int other = 0; other < press.articles; other++) {
            int others = scoreFor(now, client, other);
            boolean better = others > points || others == points && other < article;
            if (better && isFit(now, client, other, others)) {
                ahead++;
            }
        }
        return ahead;
    }

    /** The score of the best fit article if the stem was wanted, too; NONE if it can't be, or none is fit. */
    private int topScoreWith(int client, int stem) {
        int size = orders.sizes[client];
        if (size >= WANTS || orders.placeOf(client, stem) != NONE) {
            return NONE;
        }
        System.arraycopy(orders.wants[client], 0, tryout, 0, size);
        tryout[size] = stem;
        int top = NONE;
        for (int article = 0; article < press.articles; article++) {
            int points = press.scoreOf(article, tryout, size + 1, now.ages[article]);
            if (isFit(now, client, article, points)) {
                top = Math.max(top, points);
            }
        }
        return top;
    }

    // ---- sending and rounds

    private int priceFor(Ledger ledger, int client, int article) {
        return 2 + scoreFor(ledger, client, article) / 20;
    }

    private int sendTo(Ledger ledger, int client) {
        int article = bestFit(ledger, client);
        if (article == NONE) {
            return NONE;
        }
        int price = priceFor(ledger, client, article);
        if (ledger.coins[client] < price) {
            return NONE;
        }
        ledger.book(client, article, price);
        return article;
    }

    private void playRounds(Ledger ledger, int rounds) {
        for (int i = 0; i < rounds; i++) {
            for (int client = 0; client < orders.clients; client++) {
                sendTo(ledger, client);
                sendTo(ledger, client);
            }
            ledger.growOlder(press.articles);
        }
    }

    /** The best fit article is also the dearest one, so it alone is looked at. */
    private boolean someoneIsShort(Ledger ledger) {
        for (int client = 0; client < orders.clients; client++) {
            int article = bestFit(ledger, client);
            if (article != NONE && priceFor(ledger, client, article) > ledger.coins[client]) {
                return true;
            }
        }
        return false;
    }

    /** Takes the number at a place out of a row of so many, and returns how many are left. */
    private static int removeAt(int[] row, int size, int place) {
        for (int i = place; i + 1 < size; i++) {
            row[i] = row[i + 1];
        }
        return size - 1;
    }

    /** The words with their stems and the articles, and how often the stems stand in these. */
    private static final class Press {
        final int[] stems = new int[WORDS];
        final int[][] words = new int[ARTICLES][LENGTH];
        final int[] lengths = new int[ARTICLES];
        final int[][] times = new int[ARTICLES][STEMS];
        final int[] holders = new int[STEMS];
        int articles;

        Press() {
            for (int word = 0; word < WORDS; word++) {
                stems[word] = word / 2;
            }
        }

        /** To be called when words or stems have changed, so that scores need not read all the words. */
        void recount() {
            Arrays.fill(holders, 0);
            for (int article = 0; article < articles; article++) {
                recountArticle(article);
            }
        }

        private void recountArticle(int article) {
            int[] row = times[article];
            Arrays.fill(row, 0);
            for (int place = 0; place < lengths[article]; place++) {
                int stem = stemOfWord(words[article][place]);
                if (stem >= 0 && stem < STEMS) {
                    row[stem]++;
                }
            }
            for (int stem = 0; stem < STEMS; stem++) {
                if (row[stem] > 0) {
                    holders[stem]++;
                }
            }
        }

        private int stemOfWord(int word) {
            return word < 0 || word >= WORDS ? NONE : stems[word];
        }

        int rarityOf(int stem) {
            int having = stem < 0 || stem >= STEMS ? 0 : holders[stem];
            return 10 * (articles + 1) / (having + 1);
        }

        int timesOf(int article, int stem) {
            return stem < 0 || stem >= STEMS ? 0 : times[article][stem];
        }

        int scoreOf(int article, int[] wanted, int size, int age) {
            int points = 0;
            int found = 0;
            for (int i = 0; i < size; i++) {
                int often = timesOf(article, wanted[i]);
                if (often > 0) {
                    found++;
                    points += Math.min(often, COUNTED_TIMES) * rarityOf(wanted[i]);
                }
            }
            if (size >= 2 && found == size) {
                points += points / 2;
            }
            return Math.max(points - LOSS_PER_ROUND * age, 0);
        }

        int stemsOf(int article) {
            int different = 0;
            for (int stem = 0; stem < STEMS; stem++) {
                if (times[article][stem] > 0) {
                    different++;
                }
            }
            return different;
        }

        int stemsInAll() {
            int different = 0;
            for (int stem = 0; stem < STEMS; stem++) {
                if (holders[stem] > 0) {
                    different++;
                }
            }
            return different;
        }

        int wordsInAll() {
            int sum = 0;
            for (int article = 0; article < articles; article++) {
                sum += lengths[article];
            }
            return sum;
        }

        int shared(int a, int b) {
            int sum = 0;
            for (int stem = 0; stem < STEMS; stem++) {
                sum += Math.min(times[a][stem], times[b][stem]);
            }
            return sum;
        }
    }

    /** What the clients want, in the order in which they told it, and their bars. */
    private static final class Orders {
        final int[][] wants = new int[CLIENTS][WANTS];
        final int[] sizes = new int[CLIENTS];
        final int[] bars = new int[CLIENTS];
        int clients;

        Orders() {
            Arrays.fill(bars, FIRST_BAR);
        }

        int placeOf(int client, int stem) {
            for (int place = 0; place < sizes[client]; place++) {
                if (wants[client][place] == stem) {
                    return place;
                }
            }
            return NONE;
        }
    }

    /** All that sending and rounds change, so that a copy of it can be played ahead. */
    private static final class Ledger {
        final int[] ages = new int[ARTICLES];
        final int[] coins = new int[CLIENTS];
        final int[] paid = new int[CLIENTS];
        /** For each client a bit for each article that was sent to it. */
        final int[] sent = new int[CLIENTS];
        int rounds;

        void copyFrom(Ledger other) {
            System.arraycopy(other.ages, 0, ages, 0, ARTICLES);
            System.arraycopy(other.coins, 0, coins, 0, CLIENTS);
            System.arraycopy(other.paid, 0, paid, 0, CLIENTS);
            System.arraycopy(other.sent, 0, sent, 0, CLIENTS);
            rounds = other.rounds;
        }

        boolean wasSent(int client, int article) {
            return (sent[client] >> article & 1) == 1;
        }

        void book(int client, int article, int price) {
            coins[client] -= price;
            paid[client] += price;
            sent[client] |= 1 << article;
        }

        void growOlder(int articles) {
            for (int article = 0; article < articles; article++) {
                ages[article]++;
            }
            rounds++;
        }

        int receivers(int article) {
            int sum = 0;
            for (int client = 0; client < CLIENTS; client++) {
                if (wasSent(client, article)) {
                    sum++;
                }
            }
            return sum;
        }

        int sentInAll() {
            int sum = 0;
            for (int client = 0; client < CLIENTS; client++) {
                sum += Integer.bitCount(sent[client]);
            }
            return sum;
        }

        int paidInAll() {
            int sum = 0;
            for (int client = 0; client < CLIENTS; client++) {
                sum += paid[client];
            }
            return sum;
        }
    }
}
