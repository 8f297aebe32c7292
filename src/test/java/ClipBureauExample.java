/** The calls of the example in README.md, in their order, with the answers that it tells. */
public final class ClipBureauExample {
    private static int wrong = 0;

    private interface Call {
        int answer();
    }

    private static void due(String call, double due, double got) {
        if (got != due) {
            wrong++;
            System.out.println(call + " answered " + got + ", due is " + due);
        }
    }

    private static boolean isRefused(Call call) {
        try {
            call.answer();
            return false;
        } catch (IllegalArgumentException e) {
            return true;
        }
    }

    public static void main(String[] args) {
        ClipBureau bureau = new ClipBureau();
        int first = bureau.print();
        due("print()", 0, first);
        due("write(first, 4)", 1, bureau.write(first, 4));
        due("write(first, 5)", 2, bureau.write(first, 5));
        due("write(first, 6)", 3, bureau.write(first, 6));
        int second = bureau.print();
        due("print()", 1, second);
        due("write(second, 6)", 1, bureau.write(second, 6));
        int client = bureau.client(10);
        due("client(10)", 0, client);
        due("want(client, 2)", 1, bureau.want(client, 2));
        due("rarity(2)", 15, bureau.rarity(2));
        due("score(client, first)", 30, bureau.score(client, first));
        due("score(client, second)", 0, bureau.score(client, second));
        due("about(client, 5)", 1, bureau.about(client, 5));
        due("fit(client, 0)", 0, bureau.fit(client, 0));
        due("alike(first, second)", 50, bureau.alike(first, second));
        due("advise(client)", 3, bureau.advise(client));
        due("foresee(1, client)", 7, bureau.foresee(1, client));
        due("until()", -1, bureau.until());
        due("send(client)", 0, bureau.send(client));
        due("about(client, 0)", 7, bureau.about(client, 0));
        due("setBar(client, 0)", 20, bureau.setBar(client, 0));
        due("pass(2)", 1, bureau.pass(2));
        due("mean()", 2.5, bureau.mean());
        due("told(second, 2)", 2, bureau.told(second, 2));
        if (!isRefused(() -> bureau.setBar(client, 1000))) {
            wrong++;
            System.out.println("setBar(client, 1000) throws no IllegalArgumentException");
        }
        due("about(client, 2)", 0, bureau.about(client, 2));
        System.out.println(wrong == 0 ? "the example is as README.md tells" : wrong + " answers are not as due");
        if (wrong != 0) {
            System.exit(1);
        }
    }
}
