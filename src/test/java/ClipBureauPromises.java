/** For each promise of the document: ordinary inputs, the edges that it names, and wrong inputs. */
public final class ClipBureauPromises {
    private static final int LOW = Integer.MIN_VALUE;
    private static final int HIGH = Integer.MAX_VALUE;
    private static final String INDEX = "java.lang.IndexOutOfBoundsException";
    private static final String ARGUMENT = "java.lang.IllegalArgumentException";
    private static final String STATE = "java.lang.IllegalStateException";
    private static int wrong = 0;

    private interface Call {
        Object answer();
    }

    /** The call's answer, or the exception's name, as text. */
    private static void due(String what, Object due, Call call) {
        Object got;
        try {
            got = call.answer();
        } catch (RuntimeException e) {
            got = e.getClass().getName();
        }
        if (!("" + due).equals("" + got)) {
            wrong++;
            System.out.println(what + ": answered " + got + ", due is " + due);
        }
    }

    /** The call throws the exception, and the object tells the same as before. */
    private static void refused(String what, String exception, ClipBureau x, Call call) {
        long before = x.digest();
        due(what, exception, call);
        due(what + " changes nothing", before, x::digest);
    }

    public static void main(String[] args) {
        newObject();
        setStem();
        print();
        write();
        strike();
        client();
        want();
        drop();
        setBar();
        pay();
        send();
        sendPicksTheBest();
        sendWantsThePriceOfTheBest();
        priceAtItsEdges();
        whatWasSentStaysSo();
        pass();
        passTakesClientsInTheirOrder();
        told();
        word();
        about();
        stem();
        count();
        rarity();
        score();
        scoreOfManyStems();
        scoreWithAge();
        fit();
        fitWithAge();
        alike();
        advise();
        adviseCountsTheHalf();
        foresee();
        until();
        untilLooksFarAhead();
        mean();
        digest();
        fullBureau();
        System.out.println(wrong == 0 ? "all promises are kept" : wrong + " answers are not as due");
        if (wrong != 0) {
            System.exit(1);
        }
    }

    /** A bureau with an article for each row of words. */
    private static ClipBureau bureau(int[]... articles) {
        ClipBureau x = new ClipBureau();
        for (int[] words : articles) {
            int article = x.print();
            for (int word : words) {
                x.write(article, word);
            }
        }
        return x;
    }

    private static int[] row(int... words) {
        return words;
    }

    private static int client(ClipBureau x, int coins, int bar, int... stems) {
        int client = x.client(coins);
        x.setBar(client, bar);
        for (int stem : stems) {
            x.want(client, stem);
        }
        return client;
    }

    private static void newObject() {
        ClipBureau x = new ClipBureau();
        for (int what = 0; what < 7; what++) {
            int w = what;
            due("1: count " + w, 0, () -> x.count(w));
        }
        due("1: no article", INDEX, () -> x.told(0, 0));
        due("1: no client", INDEX, () -> x.about(0, 0));
        for (int word = 0; word < 40; word++) {
            int w = word;
            due("1: the stem of word " + w, w / 2, () -> x.setStem(w, w / 2));
        }
        due("1: until", -1, x::until);
        ClipBureau y = new ClipBureau();
        x.print();
        x.setStem(0, 19);
        due("1: objects share nothing", 0, () -> y.count(0));
        due("1: objects share no stems", 0, () -> y.setStem(0, 0));
    }

    private static void setStem() {
        ClipBureau x = bureau(row(4, 5, 6));
        due("2: the one before", 2, () -> x.setStem(4, 19));
        due("2: the one before again", 19, () -> x.setStem(4, 0));
        due("2: the last word", 19, () -> x.setStem(39, 0));
        due("2: stems in the article", 3, () -> x.told(0, 1));
        due("2: to the same", 2, () -> x.setStem(5, 0));
        due("2: fewer stems", 2, () -> x.told(0, 1));
        due("2: it is found", 10, () -> x.rarity(0));
        due("2: it is gone", 20, () -> x.rarity(2));
        int[][] bad = {{-1, 0}, {40, 0}, {0, -1}, {0, 20}, {LOW, HIGH}, {HIGH, LOW}};
        for (int[] b : bad) {
            refused("2: " + b[0] + ", " + b[1], INDEX, x, () -> x.setStem(b[0], b[1]));
        }
    }

    private static void print() {
        ClipBureau x = new ClipBureau();
        for (int i = 0; i < 16; i++) {
            int number = i;
            due("3: print", number, x::print);
            due("3: no words", 0, () -> x.told(number, 0));
            due("3: no age", 0, () -> x.told(number, 2));
        }
        refused("3: a 17th", STATE, x, x::print);
        due("3: sixteen", 16, () -> x.count(0));
        due("3: a later one is young", 0, () -> {
            ClipBureau y = bureau(row(0));
            y.pass(30);
            return y.told(y.print(), 2);
        });
    }

    private static void write() {
        ClipBureau x = bureau(row(), row());
        for (int i = 1; i <= 12; i++) {
            int n = i;
            due("4: write", n, () -> x.write(1, 40 - n));
        }
        due("4: the order", 39, () -> x.word(1, 0));
        due("4: the end", 28, () -> x.word(1, 11));
        due("4: the other is empty", 0, () -> x.told(0, 0));
        refused("4: a 13th", STATE, x, () -> x.write(1, 0));
        refused("4: a wrong word is named first", INDEX, x, () -> x.write(1, 40));
        int[][] bad = {{-1, 0}, {2, 0}, {16, 0}, {0, -1}, {0, 40}, {LOW, 0}, {HIGH, 0}, {0, LOW}, {0, HIGH}};
        for (int[] b : bad) {
            refused("4: " + b[0] + ", " + b[1], INDEX, x, () -> x.write(b[0], b[1]));
        }
    }

    private static void strike() {
        ClipBureau x = bureau(row(10, 11, 12, 13), row());
        due("5: strike", 11, () -> x.strike(0, 1));
        due("5: moved up", 12, () -> x.word(0, 1));
        due("5: moved up, too", 13, () -> x.word(0, 2));
        refused("5: behind the last", INDEX, x, () -> x.strike(0, 3));
        due("5: the last", 13, () -> x.strike(0, 2));
        due("5: the first", 10, () -> x.strike(0, 0));
        due("5: what is left", 12, () -> x.word(0, 0));
        due("5: stems are counted anew", 30, () -> x.rarity(5));
        due("5: written behind it", 2, () -> x.write(0, 0));
        due("5: the whole row of twelve", 12, () -> {
            ClipBureau y = bureau(row(1, 2, 3, 4, 5, 6, 7, 8, 9, 10, 11, 12));
            y.strike(0, 0);
            return y.word(0, 10);
        });
        int[][] bad = {{-1, 0}, {2, 0}, {1, 0}, {0, -1}, {0, 2}, {0, 12}, {LOW, LOW}, {HIGH, HIGH}, {0, HIGH}};
        for (int[] b : bad) {
            refused("5: " + b[0] + ", " + b[1], INDEX, x, () -> x.strike(b[0], b[1]));
        }
    }

    private static void client() {
        ClipBureau x = new ClipBureau();
        for (int coins : new int[] {-1, 1000, LOW, HIGH}) {
            refused("6: " + coins, ARGUMENT, x, () -> x.client(coins));
        }
        due("6: without coins", 0, () -> x.client(0));
        due("6: with many", 1, () -> x.client(999));
        due("6: coins", 999, () -> x.about(1, 0));
        due("6: no coins", 0, () -> x.about(0, 0));
        due("6: its bar", 20, () -> x.about(1, 2));
        for (int i = 2; i < 6; i++) {
            int number = i;
            due("6: client", number, () -> x.client(number));
        }
        refused("6: a 7th", STATE, x, () -> x.client(1));
        refused("6: wrong coins are named first", ARGUMENT, x, () -> x.client(1000));
    }

    private static void want() {
        ClipBureau x = new ClipBureau();
        x.client(1);
        x.client(1);
        due("7: want", 1, () -> x.want(0, 19));
        refused("7: already", STATE, x, () -> x.want(0, 19));
        due("7: another", 2, () -> x.want(0, 0));
        due("7: another client's", 1, () -> x.want(1, 19));
        x.want(0, 1);
        x.want(0, 2);
        due("7: the 5th", 5, () -> x.want(0, 3));
        refused("7: a 6th", STATE, x, () -> x.want(0, 4));
        refused("7: a wrong stem is named first", INDEX, x, () -> x.want(0, 20));
        int[][] bad = {{-1, 0}, {2, 0}, {6, 0}, {1, -1}, {1, 20}, {LOW, 0}, {HIGH, 0}, {1, LOW}, {1, HIGH}};
        for (int[] b : bad) {
            refused("7: " + b[0] + ", " + b[1], INDEX, x, () -> x.want(b[0], b[1]));
        }
    }

    private static void drop() {
        ClipBureau x = new ClipBureau();
        client(x, 1, 20, 7, 5, 3, 1, 0);
        x.client(1);
        due("8: drop", 1, () -> x.drop(0, 5));
        due("8: those behind move up", 3, () -> x.stem(0, 1));
        due("8: the last", 3, () -> x.drop(0, 0));
        due("8: the first", 0, () -> x.drop(0, 7));
        due("8: what is left", 2, () -> x.about(0, 1));
        due("8: again at the end", 3, () -> x.want(0, 7));
        due("8: it stands there", 7, () -> x.stem(0, 2));
        refused("8: not wanted", STATE, x, () -> x.drop(0, 5));
        refused("8: another client's", STATE, x, () -> x.drop(1, 7));
        int[][] bad = {{-1, 7}, {2, 7}, {0, -1}, {0, 20}, {LOW, 0}, {HIGH, 0}, {0, LOW}, {0, HIGH}};
        for (int[] b : bad) {
            refused("8: " + b[0] + ", " + b[1], INDEX, x, () -> x.drop(b[0], b[1]));
        }
    }

    private static void setBar() {
        ClipBureau x = bureau(row(0));
        client(x, 5, 20, 0);
        due("9: the one before", 20, () -> x.setBar(0, 999));
        due("9: again", 999, () -> x.setBar(0, 0));
        due("9: again", 0, () -> x.setBar(0, 10));
        due("9: a score of the bar is fit", 1, () -> x.about(0, 5));
        x.setBar(0, 11);
        due("9: a score below is not", 0, () -> x.about(0, 5));
        for (int bar : new int[] {-1, 1000, LOW, HIGH}) {
            refused("9: bar " + bar, ARGUMENT, x, () -> x.setBar(0, bar));
            refused("9: no client, bar " + bar, INDEX, x, () -> x.setBar(1, bar));
        }
        for (int client : new int[] {-1, 1, 6, LOW, HIGH}) {
            refused("9: client " + client, INDEX, x, () -> x.setBar(client, 1));
        }
    }

    private static void pay() {
        ClipBureau x = new ClipBureau();
        x.client(0);
        x.client(7);
        due("10: one", 1, () -> x.pay(0, 1));
        for (int i = 1; i <= 10; i++) {
            int n = i;
            due("10: many", 1 + 999 * n, () -> x.pay(0, 999));
        }
        due("10: up to the most", 9999, () -> x.pay(0, 8));
        due("10: at most", 9999, () -> x.pay(0, 1));
        due("10: at most still", 9999, () -> x.pay(0, 999));
        due("10: the other's", 7, () -> x.about(1, 0));
        for (int coins : new int[] {0, -1, 1000, LOW, HIGH}) {
            refused("10: coins " + coins, ARGUMENT, x, () -> x.pay(1, coins));
            refused("10: no client, coins " + coins, INDEX, x, () -> x.pay(2, coins));
        }
        for (int client : new int[] {-1, 2, 6, LOW, HIGH}) {
            refused("10: client " + client, INDEX, x, () -> x.pay(client, 1));
        }
    }

    private static void send() {
        ClipBureau x = bureau(row(0, 0, 0, 0), row(2));
        client(x, 5, 20, 0);
        // 3 times a rarity of 15 are 45
        due("11: the score", 45, () -> x.score(0, 0));
        due("11: send", 0, () -> x.send(0));
        due("11: its price", 1, () -> x.about(0, 0));
        due("11: what it paid", 4, () -> x.about(0, 4));
        due("11: to how many", 1, () -> x.told(0, 3));
        due("11: no round", 0, () -> x.told(0, 2));
        due("11: none is left", -1, () -> x.send(0));
        for (int client : new int[] {-1, 1, 6, LOW, HIGH}) {
            refused("11: client " + client, INDEX, x, () -> x.send(client));
        }
    }

    private static void sendPicksTheBest() {
        ClipBureau x = bureau(row(0), row(0, 0), row(2, 0, 0), row(4));
        client(x, 999, 0, 0);
        due("11: the smallest number of the best", 1, () -> x.send(0));
        due("11: then the other", 2, () -> x.send(0));
        due("11: then the next", 0, () -> x.send(0));
        due("11: then one of score 0", 3, () -> x.send(0));
        due("11: then none", -1, () -> x.send(0));
        due("11: all were sent", 4, () -> x.about(0, 3));
    }

    private static void sendWantsThePriceOfTheBest() {
        // scores of 39 and 13 in a bureau of three: prices of 3 and 2
        ClipBureau x = bureau(row(0, 0, 0), row(0), row(2));
        client(x, 2, 0, 0);
        due("11: the best", 39, () -> x.score(0, 0));
        due("11: a cheaper one is not sent", -1, () -> x.send(0));
        due("11: nothing is paid", 2, () -> x.about(0, 0));
        x.pay(0, 1);
        due("11: the price and no more", 0, () -> x.send(0));
        due("11: all is paid", 0, () -> x.about(0, 0));
        ClipBureau y = bureau(row(0, 0, 0, 0), row(2, 2), row(2));
        client(y, 3, 20, 0);
        y.setStem(2, 0);
        due("11: a score of 30", 30, () -> y.score(0, 0));
        y.drop(0, 0);
        y.setBar(0, 0);
        due("11: the first one at a bar of 0", 0, () -> y.send(0));
        due("11: for 2", 1, () -> y.about(0, 0));
        due("11: one coin is too few", -1, () -> y.send(0));
    }

    private static void priceAtItsEdges() {
        // all articles have the stem, so its rarity is 10, and a round takes 3 off
        ClipBureau x = bureau(row(0, 0, 0), row(0, 0), row(0, 0));
        client(x, 99, 0, 0);
        x.send(0);
        due("11: a score of 30", 96, () -> x.about(0, 0));
        x.send(0);
        due("11: a score of 20", 93, () -> x.about(0, 0));
        x.pass(1);
        due("11: a score of 20 again", 90, () -> x.about(0, 0));
        ClipBureau y = bureau(row(0, 0), row(0, 0), row(2, 2), row(3, 3), row(3));
        client(y, 99, 0, 0);
        y.pass(1);
        due("11: two of 40", 91, () -> y.about(0, 0));
        ClipBureau z = bureau(row(0, 0, 0), row(0), row(2));
        client(z, 99, 30, 0);
        z.send(0);
        due("11: one of 39", 96, () -> z.about(0, 0));
        ClipBureau w = bureau(row(0, 0), row(0, 0));
        client(w, 99, 0, 0);
        client(w, 99, 0, 0);
        w.send(0);
        w.setBar(0, 999);
        w.pass(1);
        due("11: two of 20", 93, () -> w.about(1, 0));
        w.setBar(0, 0);
        w.send(0);
        due("11: 17 a round later", 94, () -> w.about(0, 0));
    }

    private static void whatWasSentStaysSo() {
        ClipBureau x = bureau(row(0, 0, 0));
        client(x, 100, 20, 0);
        due("11: sent", 0, () -> x.send(0));
        x.write(0, 1);
        x.strike(0, 0);
        x.setStem(1, 5);
        x.want(0, 5);
        due("11: it is not sent again", -1, () -> x.send(0));
        due("11: it is not fit again", 0, () -> x.about(0, 5));
        due("11: it was sent once", 1, () -> x.told(0, 3));
        due("11: another client gets it", 0, () -> x.send(client(x, 50, 0)));
        due("11: to two clients", 2, () -> x.told(0, 3));
    }

    private static void pass() {
        ClipBureau x = bureau(row(0), row(0), row(0), row(0), row(0));
        client(x, 100, 0);
        due("12: two in a round", 2, () -> x.pass(1));
        due("12: older", 1, () -> x.told(4, 2));
        due("12: the rest in two", 3, () -> x.pass(2));
        due("12: none", 0, () -> x.pass(30));
        due("12: rounds in all", 33, () -> x.count(4));
        due("12: their age", 33, () -> x.told(0, 2));
        for (int rounds : new int[] {0, -1, 31, 1000, LOW}) {
            refused("12: rounds " + rounds, ARGUMENT, x, () -> x.pass(rounds));
        }
        ClipBureau y = new ClipBureau();
        due("12: an empty bureau", 0, () -> y.pass(30));
        due("12: its rounds", 30, () -> y.count(4));
    }

    /** A round ages the articles behind the sending: the first sending still has the whole score. */
    private static void passTakesClientsInTheirOrder() {
        ClipBureau x = bureau(row(0, 0), row(0, 0), row(2));
        client(x, 999, 20, 0);
        client(x, 999, 24, 0);
        due("12: scores", 26, () -> x.score(1, 0));
        due("12: both clients, both articles", 4, () -> x.pass(1));
        due("12: the whole price", 6, () -> x.about(1, 4));
        due("12: a round less", 23, () -> x.score(1, 0));
        ClipBureau y = bureau(row(0, 0), row(0, 0), row(0, 0), row(2));
        client(y, 999, 22, 0);
        due("12: twice in a row", 2, () -> y.pass(1));
        due("12: then it is too old", 0, () -> y.pass(1));
        due("12: a score below the bar", 18, () -> y.score(0, 2));
    }

    private static void told() {
        ClipBureau x = bureau(row(0, 1, 1, 39), row());
        client(x, 100, 0);
        x.client(0);
        x.pass(2);
        due("13: words", 4, () -> x.told(0, 0));
        due("13: stems", 2, () -> x.told(0, 1));
        due("13: age", 2, () -> x.told(0, 2));
        due("13: clients", 1, () -> x.told(0, 3));
        due("13: no words", 0, () -> x.told(1, 0));
        due("13: no stems", 0, () -> x.told(1, 1));
        int[][] bad = {{-1, 0}, {2, 0}, {16, 0}, {0, -1}, {0, 4}, {LOW, 0}, {HIGH, 0}, {0, LOW}, {0, HIGH}};
        for (int[] b : bad) {
            refused("13: " + b[0] + ", " + b[1], INDEX, x, () -> x.told(b[0], b[1]));
        }
    }

    private static void word() {
        ClipBureau x = bureau(row(), row(39, 0));
        due("14: the first", 39, () -> x.word(1, 0));
        due("14: the last", 0, () -> x.word(1, 1));
        int[][] bad = {{-1, 0}, {2, 0}, {0, 0}, {1, -1}, {1, 2}, {1, 12}, {LOW, 0}, {HIGH, 0}, {1, LOW}, {1, HIGH}};
        for (int[] b : bad) {
            refused("14: " + b[0] + ", " + b[1], INDEX, x, () -> x.word(b[0], b[1]));
        }
    }

    private static void about() {
        ClipBureau x = bureau(row(0, 0), row(2), row(2), row(0));
        client(x, 50, 16, 0, 9);
        x.send(0);
        due("15: coins", 47, () -> x.about(0, 0));
        due("15: stems", 2, () -> x.about(0, 1));
        due("15: bar", 16, () -> x.about(0, 2));
        due("15: sent", 1, () -> x.about(0, 3));
        due("15: paid", 3, () -> x.about(0, 4));
        due("15: fit ones", 1, () -> x.about(0, 5));
        x.setBar(0, 0);
        due("15: fit ones at a bar of 0", 3, () -> x.about(0, 5));
        int[][] bad = {{-1, 0}, {1, 0}, {6, 0}, {0, -1}, {0, 6}, {LOW, 0}, {HIGH, 0}, {0, LOW}, {0, HIGH}};
        for (int[] b : bad) {
            refused("15: " + b[0] + ", " + b[1], INDEX, x, () -> x.about(b[0], b[1]));
        }
    }

    private static void stem() {
        ClipBureau x = new ClipBureau();
        client(x, 0, 20, 19, 0);
        x.client(0);
        due("16: the first", 19, () -> x.stem(0, 0));
        due("16: the last", 0, () -> x.stem(0, 1));
        int[][] bad = {{-1, 0}, {2, 0}, {1, 0}, {0, -1}, {0, 2}, {0, 5}, {LOW, 0}, {HIGH, 0}, {0, LOW}, {0, HIGH}};
        for (int[] b : bad) {
            refused("16: " + b[0] + ", " + b[1], INDEX, x, () -> x.stem(b[0], b[1]));
        }
    }

    private static void count() {
        ClipBureau x = bureau(row(0, 1, 2), row(3, 39), row());
        client(x, 10, 0);
        client(x, 2, 0);
        x.pass(1);
        x.send(0);
        int[] due = {3, 2, 5, 3, 1, 4, 8};
        for (int what = 0; what < 7; what++) {
            int w = what;
            due("17: " + w, due[w], () -> x.count(w));
        }
        for (int what : new int[] {-1, 7, LOW, HIGH}) {
            refused("17: " + what, INDEX, x, () -> x.count(what));
        }
    }

    private static void rarity() {
        ClipBureau x = bureau(row(0, 0, 1), row(0, 2), row());
        due("18: in two of three", 13, () -> x.rarity(0));
        due("18: in one of three", 20, () -> x.rarity(1));
        due("18: in none of three", 40, () -> x.rarity(19));
        x.print();
        due("18: articles without words count", 16, () -> x.rarity(0));
        due("18: no articles", 10, () -> new ClipBureau().rarity(0));
        for (int stem : new int[] {-1, 20, LOW, HIGH}) {
            refused("18: " + stem, INDEX, x, () -> x.rarity(stem));
        }
    }

    private static void score() {
        ClipBureau x = bureau(row(0, 0, 0, 0, 2), row(4), row());
        client(x, 0, 20);
        due("19: nothing is wanted", 0, () -> x.score(0, 0));
        x.want(0, 0);
        due("19: at most three times", 60, () -> x.score(0, 0));
        due("19: it does not have it", 0, () -> x.score(0, 1));
        x.want(0, 1);
        due("19: both, and half more", 120, () -> x.score(0, 0));
        x.want(0, 2);
        due("19: not all", 80, () -> x.score(0, 0));
        due("19: one of three", 20, () -> x.score(0, 1));
        due("19: no words", 0, () -> x.score(0, 2));
        int[][] bad = {{-1, 0}, {1, 0}, {6, 0}, {0, -1}, {0, 3}, {0, 16}, {LOW, 0}, {HIGH, 0}, {0, LOW}, {0, HIGH}};
        for (int[] b : bad) {
            refused("19: " + b[0] + ", " + b[1], INDEX, x, () -> x.score(b[0], b[1]));
        }
    }

    private static void scoreOfManyStems() {
        // five articles, rarities of 30 and 20: 50 + 25 with the half
        ClipBureau x = bureau(row(0, 2), row(2), row(), row(), row());
        client(x, 0, 20, 0, 1);
        due("19: rarities are added", 75, () -> x.score(0, 0));
        // rarities of 20 and 13: the half of 33 is cut
        ClipBureau y = bureau(row(0, 2), row(2), row());
        client(y, 0, 20, 1, 0);
        due("19: the half is cut", 49, () -> y.score(0, 0));
        ClipBureau z = bureau(row(0, 2, 4, 6, 8, 0, 2));
        client(z, 0, 20, 4, 3, 2, 1, 0);
        due("19: all five", 105, () -> z.score(0, 0));
        z.setStem(8, 9);
        due("19: four of five", 60, () -> z.score(0, 0));
    }

    private static void scoreWithAge() {
        ClipBureau x = bureau(row(0, 2));
        client(x, 0, 20, 0, 1);
        due("19: young", 30, () -> x.score(0, 0));
        x.pass(1);
        due("19: the age goes off behind the half", 27, () -> x.score(0, 0));
        x.pass(8);
        due("19: old", 3, () -> x.score(0, 0));
        x.pass(1);
        due("19: at 0", 0, () -> x.score(0, 0));
        x.pass(30);
        due("19: not below 0", 0, () -> x.score(0, 0));
    }

    private static void fit() {
        // scores: 8, 16, 0, 16, 24 (six articles; the stem is in five with the last)
        ClipBureau x = bureau(row(0), row(0, 0), row(2), row(1, 0), row(0, 0, 0), row(0));
        client(x, 100, 0, 0);
        due("20: a score", 11, () -> x.score(0, 0));
        int[] due = {4, 1, 3, 0, 5, 2};
        for (int place = 0; place < 6; place++) {
            int p = place;
            due("20: place " + p, due[p], () -> x.fit(0, p));
        }
        refused("20: behind the last", INDEX, x, () -> x.fit(0, 6));
        x.send(0);
        due("20: the sent one is gone", 1, () -> x.fit(0, 0));
        due("20: the others move up", 2, () -> x.fit(0, 4));
        refused("20: behind the last again", INDEX, x, () -> x.fit(0, 5));
        x.setBar(0, 22);
        due("20: the last above the bar", 3, () -> x.fit(0, 1));
        due("20: a sent one of a small number is gone, too", 1, () -> {
            ClipBureau y = bureau(row(0, 0), row(0), row(2));
            client(y, 100, 0, 0);
            y.send(0);
            return y.fit(0, 0);
        });
        int[][] bad = {{0, 2}, {0, -1}, {-1, 0}, {1, 0}, {6, 0}, {LOW, 0}, {HIGH, 0}, {0, LOW}, {0, HIGH}};
        for (int[] b : bad) {
            refused("20: " + b[0] + ", " + b[1], INDEX, x, () -> x.fit(b[0], b[1]));
        }
    }

    /** Scores fall to 0 with age, and then the numbers alone make the order. */
    private static void fitWithAge() {
        ClipBureau x = bureau(row(0), row(0, 0), row(0, 0, 0));
        client(x, 1, 11, 0);
        due("20: young", 1, () -> x.fit(0, 1));
        x.pass(4);
        due("20: only the best is left", 2, () -> x.fit(0, 0));
        due("20: one", 1, () -> x.about(0, 5));
        refused("20: the second is too old", INDEX, x, () -> x.fit(0, 1));
        x.setBar(0, 0);
        due("20: one has 0", 0, () -> x.fit(0, 2));
        x.pass(5);
        due("20: the best still", 2, () -> x.fit(0, 0));
        due("20: two have 0", 0, () -> x.fit(0, 1));
        due("20: the greater number of these", 1, () -> x.fit(0, 2));
    }

    /** As many of everything as there may be: nothing is looked for behind the last. */
    private static void fullBureau() {
        ClipBureau x = new ClipBureau();
        for (int article = 0; article < 16; article++) {
            x.print();
            for (int i = 0; i < 12; i++) {
                x.write(article, (article + i) % 40);
            }
        }
        for (int i = 0; i < 6; i++) {
            client(x, 999, 0, 19, 18, 17, 16, 15);
        }
        due("all: different stems", 14, () -> x.count(3));
        due("all: the last fit article", 15, () -> x.fit(5, 15));
        refused("all: behind it", INDEX, x, () -> x.fit(5, 16));
        due("all: alike", 91, () -> x.alike(14, 15));
        due("all: until", -1, x::until);
        due("all: foresee", 967, () -> x.foresee(30, 5));
        due("all: no advice", -1, () -> x.advise(5));
        x.drop(5, 15);
        due("all: advice", 0, () -> x.advise(5));
        due("all: pass", 96, () -> x.pass(30));
        due("all: mean", 2.0, x::mean);
        refused("all: print", STATE, x, x::print);
        refused("all: client", STATE, x, () -> x.client(0));
        refused("all: write", STATE, x, () -> x.write(15, 0));
    }

    private static void alike() {
        ClipBureau x = bureau(row(0, 1, 2), row(0, 2, 2, 4), row(), row(), row(38));
        // stem 0 twice and once, stem 1 once and twice: 2 + 2 of 7
        due("21: alike", 57, () -> x.alike(0, 1));
        due("21: the other way", 57, () -> x.alike(1, 0));
        due("21: itself", 100, () -> x.alike(1, 1));
        due("21: nothing in common", 0, () -> x.alike(0, 4));
        due("21: one has no words", 0, () -> x.alike(0, 2));
        due("21: both have none", 0, () -> x.alike(2, 3));
        due("21: none with itself", 0, () -> x.alike(2, 2));
        int[][] bad = {{-1, 0}, {5, 0}, {0, -1}, {0, 5}, {16, 16}, {LOW, 0}, {HIGH, 0}, {0, LOW}, {0, HIGH}};
        for (int[] b : bad) {
            refused("21: " + b[0] + ", " + b[1], INDEX, x, () -> x.alike(b[0], b[1]));
        }
    }

    private static void advise() {
        ClipBureau x = bureau(row(6, 6), row(8, 8, 8), row(10, 10, 10));
        client(x, 100, 20);
        long before = x.digest();
        due("22: the smallest of the best", 4, () -> x.advise(0));
        due("22: nothing is changed", before, x::digest);
        x.want(0, 4);
        due("22: the best one as it is, so the smallest stem", 0, () -> x.advise(0));
        x.want(0, 0);
        due("22: not one that it wants", 1, () -> x.advise(0));
        x.drop(0, 0);
        x.drop(0, 4);
        x.setBar(0, 60);
        due("22: a score of the bar", 4, () -> x.advise(0));
        x.setBar(0, 61);
        due("22: none would be fit", -1, () -> x.advise(0));
        x.setBar(0, 0);
        x.pass(1);
        due("22: those that were sent do not count", 5, () -> x.advise(0));
        x.pass(30);
        due("22: none is left", -1, () -> x.advise(0));
        x.print();
        due("22: a bar of 0 and a score of 0", 0, () -> x.advise(0));
        for (int stem = 0; stem < 5; stem++) {
            x.want(0, stem);
        }
        due("22: it wants five", -1, () -> x.advise(0));
        due("22: no articles", -1, () -> {
            ClipBureau y = new ClipBureau();
            client(y, 1, 0);
            return y.advise(0);
        });
        for (int client : new int[] {-1, 1, 6, LOW, HIGH}) {
            refused("22: client " + client, INDEX, x, () -> x.advise(client));
        }
    }

    private static void adviseCountsTheHalf() {
        // alone 19 would bring 40, with 0 its 15 make 15 + 15 and half of that
        ClipBureau x = bureau(row(0, 2), row(38, 38));
        client(x, 100, 20, 0);
        due("22: before", 15, () -> x.score(0, 0));
        due("22: the half makes it the best", 1, () -> x.advise(0));
        // with 0 and 1 article 0 brings 45; a third stem takes its half away, and article 2 brings 60
        ClipBureau y = bureau(row(0, 2), row(0, 2), row(38, 38, 38));
        client(y, 100, 46, 0, 1);
        due("22: the half is lost", 19, () -> y.advise(0));
        ClipBureau z = bureau(row(0, 2));
        client(z, 100, 16, 0, 1);
        due("22: before", 30, () -> z.score(0, 0));
        due("22: any other stem takes the half away, the smallest first", 2, () -> z.advise(0));
        z.setBar(0, 21);
        due("22: without the half none is fit", -1, () -> z.advise(0));
        due("22: though one is now", 1, () -> z.about(0, 5));
    }

    private static void foresee() {
        ClipBureau x = bureau(row(0), row(0), row(0), row(0), row(0));
        client(x, 100, 0);
        client(x, 5, 0);
        long before = x.digest();
        due("23: one round", 96, () -> x.foresee(1, 0));
        due("23: two rounds", 92, () -> x.foresee(2, 0));
        due("23: three rounds", 90, () -> x.foresee(3, 0));
        due("23: thirty rounds", 90, () -> x.foresee(30, 0));
        due("23: as far as its coins go", 1, () -> x.foresee(30, 1));
        due("23: nothing is changed", before, x::digest);
        due("23: it is so", 92, () -> {
            x.pass(2);
            return x.about(0, 0);
        });
        due("23: from then on", 90, () -> x.foresee(1, 0));
        for (int rounds : new int[] {0, -1, 31, 1000, LOW}) {
            refused("23: rounds " + rounds, ARGUMENT, x, () -> x.foresee(rounds, 0));
            refused("23: no client, rounds " + rounds, ARGUMENT, x, () -> x.foresee(rounds, 2));
        }
        for (int client : new int[] {-1, 2, 6, LOW, HIGH}) {
            refused("23: client " + client, INDEX, x, () -> x.foresee(1, client));
        }
    }

    private static void until() {
        ClipBureau x = bureau(row(), row(), row(), row(), row());
        client(x, 999, 0);
        due("24: enough coins", -1, x::until);
        client(x, 5, 0);
        long before = x.digest();
        due("24: two in the first round", 1, x::until);
        due("24: nothing is changed", before, x::digest);
        x.pass(1);
        due("24: now", 0, x::until);
        x.pay(1, 4);
        due("24: behind a round", 1, x::until);
        x.pay(1, 1);
        due("24: enough for all", -1, x::until);
        ClipBureau y = bureau(row(0, 0, 0));
        client(y, 3, 0, 0);
        due("24: a price of 3 can be paid", -1, y::until);
        ClipBureau z = bureau(row(0, 0, 0), row(2));
        client(z, 3, 0, 0);
        due("24: a price of 4 can't", 0, z::until);
    }

    /** Fit articles only get fewer by themselves, so coins run out as they are spent. */
    private static void untilLooksFarAhead() {
        ClipBureau x = new ClipBureau();
        for (int article = 0; article < 16; article++) {
            x.print();
        }
        client(x, 31, 0);
        due("24: the last coin", 8, x::until);
        x.pay(0, 1);
        due("24: enough for all sixteen", -1, x::until);
        ClipBureau y = bureau(row(0, 0, 0), row(0, 0));
        client(y, 4, 1, 0);
        due("24: a score of 20 has a price of 3", 20, () -> y.score(0, 1));
        due("24: one coin is left for a price of 2", 1, y::until);
        y.pay(0, 1);
        due("24: two coins are too few within the round, but not behind it", -1, y::until);
        ClipBureau z = bureau(row(0, 0, 0), row(0, 0, 0), row(2));
        client(z, 3, 37, 0);
        due("24: no coins, but the other is below the bar behind the round", -1, z::until);
        z.setBar(0, 36);
        due("24: no coins, and the other is fit", 1, z::until);
    }

    private static void mean() {
        ClipBureau x = bureau(row(0, 0, 0), row(0), row(0));
        due("25: none", 0.0, x::mean);
        client(x, 100, 20, 0);
        x.send(0);
        due("25: one", 3.0, x::mean);
        x.setBar(0, 0);
        x.pass(1);
        due("25: three", 7.0 / 3, x::mean);
        client(x, 2, 0);
        x.send(1);
        due("25: of all clients", 2.25, x::mean);
    }

    private static void digest() {
        ClipBureau x = new ClipBureau();
        long empty = 1451;
        for (int what = 0; what < 7; what++) {
            empty = empty * 31;
        }
        for (int word = 0; word < 40; word++) {
            empty = empty * 31 + word / 2;
        }
        due("26: a new object", empty, x::digest);
        x.print();
        x.write(0, 39);
        x.write(0, 0);
        client(x, 9, 1, 19, 3);
        x.setStem(0, 7);
        x.pass(2);
        int[] numbers = {1, 1, 2, 2, 2, 1, 2};
        long d = 1451;
        for (int number : numbers) {
            d = d * 31 + number;
        }
        d = d * 31 + 7;
        for (int word = 1; word < 40; word++) {
            d = d * 31 + word / 2;
        }
        for (int number : new int[] {2, 2, 2, 1, 39, 0, 7, 2, 1, 1, 2, 0, 19, 3, 4}) {
            d = d * 31 + number;
        }
        due("26: all of it", d, x::digest);
        due("26: it changes nothing", d, x::digest);
    }
}
