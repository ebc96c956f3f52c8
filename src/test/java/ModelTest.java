import java.util.Random;

/** Many runs of calls by chance (the same each time), each answer against the plain model's. */
public final class ModelTest {
    private static final int RUNS = 3000;
    private static final int CALLS = 512;

    private final Random chance;
    private final GuestNoes x = new GuestNoes();
    private final PlainModel y = new PlainModel();
    private final StringBuilder story = new StringBuilder();
    private int calls = 0;

    private ModelTest(int run) {
        chance = new Random(run);
    }

    public static void main(String[] args) {
        for (int run = 0; run < RUNS && Check.isAllAsDue(); run++) {
            new ModelTest(run).go(run);
        }
        for (int run = 0; run < RUNS && Check.isAllAsDue(); run++) {
            new ModelTest(RUNS + run).readTexts();
        }
        Check.end("ModelTest");
    }

    private void go(int run) {
        if (chance.nextInt(20) > 0) {
            readText(goodText(6));
        }
        while (calls < CALLS && Check.isAllAsDue()) {
            step();
        }
        if (!Check.isAllAsDue()) {
            System.out.println("run " + run + ": " + story);
        }
    }

    private void readTexts() {
        while (calls < CALLS - 245 && Check.isAllAsDue()) {
            readText(chance.nextInt(4) == 0 ? wildText() : spoilt(goodText(1 + chance.nextInt(6))));
        }
        if (!Check.isAllAsDue()) {
            System.out.println(story);
        }
    }

    private void due(String call, int got, int want) {
        calls++;
        story.append(call).append(" = ").append(want).append("; ");
        Check.is(call, got, want);
    }

    private void readText(String text) {
        for (int i = 0; i < text.length(); i++) {
            due("feed(" + (int) text.charAt(i) + ")", x.feed(text.charAt(i)), y.feed(text.charAt(i)));
        }
        due("evening()", x.evening(), y.evening());
        due("fault()", x.fault(), y.fault());
        for (int what = 0; what < 4; what++) {
            due("told(" + what + ")", x.told(what), y.told(what));
        }
    }

    private String number(int most) {
        int v = chance.nextInt(most + 1);
        return chance.nextInt(12) == 0 ? String.format("%03d", v) : String.valueOf(v);
    }

    private String blank() {
        return chance.nextInt(8) == 0 ? " " : "";
    }

    private String goodText(int size) {
        StringBuilder text = new StringBuilder(blank() + "t" + blank() + number(255) + blank() + ";" + blank());
        int guests = chance.nextInt(size + 1);
        int hosts = chance.nextInt(Math.min(4, size) + 1);
        int topics = 1 + chance.nextInt(8);
        while (guests + hosts > 0) {
            if (hosts > 0 && (guests == 0 || chance.nextBoolean())) {
                text.append("h").append(blank()).append(number(3)).append(" ").append(number(chance.nextInt(10)));
                hosts--;
            } else {
                text.append("g").append(blank()).append(number(9)).append(" ").append(number(10 * topics - 1));
                for (int k = chance.nextInt(6); k > 0; k--) {
                    text.append(blank()).append(",").append(blank()).append(number(10 * topics - 1));
                }
                guests--;
            }
            text.append(blank()).append(";").append(blank());
        }
        return text.toString();
    }

    private String spoilt(String text) {
        StringBuilder spoilt = new StringBuilder(text);
        for (int n = chance.nextInt(3); n > 0 && spoilt.length() > 0; n--) {
            int at = chance.nextInt(spoilt.length());
            switch (chance.nextInt(4)) {
                case 0 -> spoilt.deleteCharAt(at);
                case 1 -> spoilt.insert(at, letter());
                case 2 -> spoilt.setCharAt(at, letter());
                default -> spoilt.setLength(at);
            }
        }
        return spoilt.toString();
    }

    private char letter() {
        return chance.nextInt(20) == 0 ? (char) chance.nextInt(256) : "tgh;,0123456789 ".charAt(chance.nextInt(16));
    }

    private String wildText() {
        StringBuilder text = new StringBuilder();
        for (int n = chance.nextInt(12); n > 0; n--) {
            text.append(letter());
        }
        return text.toString();
    }

    /** Mostly 0 to most, now and then out of it. */
    private int number(int least, int most) {
        int luck = chance.nextInt(40);
        if (luck == 0) {
            return least - 1;
        }
        if (luck == 1) {
            return most + 1;
        }
        if (luck == 2) {
            return chance.nextInt();
        }
        return least + chance.nextInt(most - least + 1);
    }

    private int someGuest() {
        return number(0, Math.max(0, y.told(1) - 1));
    }

    private int someHost() {
        return number(0, Math.max(0, y.told(2) - 1));
    }

    private void step() {
        int kind = chance.nextInt(100);
        if (kind < 45) {
            deed();
        } else if (kind < 70) {
            tried();
        } else if (kind < 88) {
            look();
        } else {
            other();
        }
    }

    private void deed() {
        int g = someGuest();
        int h = someHost();
        int q = someGuest();
        switch (chance.nextInt(14)) {
            case 0, 1, 2 -> due("say(" + g + ")", x.say(g), y.say(g));
            case 3, 4, 5 -> due("no(" + h + ", " + g + ")", x.no(h, g), y.no(h, g));
            case 6, 7 -> due("share(" + g + ", " + q + ")", x.share(g, q), y.share(g, q));
            case 8 -> due("bed(" + g + ")", x.bed(g), y.bed(g));
            case 9, 10 -> {
                int n = chance.nextInt(5) == 0 ? number(1, 20) : number(1, 2);
                due("hour(" + n + ")", x.hour(n), y.hour(n));
            }
            case 11 -> due("anew()", x.anew(), y.anew());
            case 12 -> {
                int n = chance.nextInt(5) == 0 ? number(1, 20) : number(1, 3);
                due("drift(" + n + ")", x.drift(n), y.drift(n));
            }
            default -> {
                int n = chance.nextInt(4) == 0 ? number(1, 30) : number(1, 4);
                due("undo(" + n + ")", x.undo(n), y.undo(n));
            }
        }
    }

    private void tried() {
        int g = someGuest();
        int h = someHost();
        int q = someGuest();
        int k = number(0, 5);
        switch (chance.nextInt(9)) {
            case 0 -> due("joy(" + g + ", " + h + ", " + k + ")", x.joy(g, h, k), y.joy(g, h, k));
            case 1 -> {
                int what = number(0, 2);
                due("best(" + g + ", " + what + ")", x.best(g, what), y.best(g, what));
            }
            case 2 -> due("plan(" + g + ")", x.plan(g), y.plan(g));
            case 3 -> due("plan(-1)", x.plan(-1), y.plan(-1));
            case 4 -> due("line(" + g + ", " + h + ")", x.line(g, h), y.line(g, h));
            case 5 -> due("now(" + g + ", " + h + ", " + k + ")", x.now(g, h, k), y.now(g, h, k));
            case 6 -> due("agree(" + g + ", " + q + ")", x.agree(g, q), y.agree(g, q));
            case 7 -> {
                int topic = number(0, 7);
                due("boldest(" + topic + ")", x.boldest(topic), y.boldest(topic));
            }
            default -> {
                int n = number(0, 60);
                int odds = number(0, 100);
                due("dry(" + n + ", " + odds + ")", x.dry(n, odds), y.dry(n, odds));
            }
        }
    }

    private void look() {
        int g = someGuest();
        int h = someHost();
        int k = number(0, 5);
        switch (chance.nextInt(7)) {
            case 0, 1, 2 -> {
                int what = number(0, 18);
                due("told(" + what + ")", x.told(what), y.told(what));
            }
            case 3, 4 -> {
                int what = number(0, 5);
                due("guest(" + g + ", " + what + ")", x.guest(g, what), y.guest(g, what));
            }
            case 5 -> {
                int what = number(0, 1);
                due("claim(" + g + ", " + k + ", " + what + ")", x.claim(g, k, what), y.claim(g, k, what));
            }
            default -> {
                int what = number(0, 2);
                due("host(" + h + ", " + what + ")", x.host(h, what), y.host(h, what));
            }
        }
    }

    private void other() {
        int g = someGuest();
        int h = chance.nextInt(3) == 0 ? someHost() : -1;
        int topic = number(0, 7);
        int i = number(0, 1);
        switch (chance.nextInt(16)) {
            case 0, 1 -> {
                boolean claims = chance.nextBoolean();
                due("hear(" + topic + ", " + claims + ")", x.hear(topic, claims), y.hear(topic, claims));
            }
            case 2 -> due("couldBe()", x.couldBe(), y.couldBe());
            case 3, 4 -> due("ask()", x.ask(), y.ask());
            case 5, 6, 7 -> due("write(" + g + ", " + h + ")", x.write(g, h), y.write(g, h));
            case 8, 9 -> due("judge()", x.judge(), y.judge());
            case 10 -> due("tear()", x.tear(), y.tear());
            case 11 -> {
                int v = chance.nextInt(4) == 0 ? chance.nextInt() : chance.nextInt(1000);
                due("seed(" + v + ")", x.seed(v), y.seed(v));
            }
            case 12 -> due("keep(" + i + ")", x.keep(i), y.keep(i));
            case 13 -> due("goBack(" + i + ")", x.goBack(i), y.goBack(i));
            case 14 -> {
                int letter = number(0, 255);
                due("feed(" + letter + ")", x.feed(letter), y.feed(letter));
            }
            default -> {
                int luck = chance.nextInt(8);
                if (luck == 0) {
                    due("evening()", x.evening(), y.evening());
                } else if (luck == 1 && calls < CALLS - 200) {
                    readText(goodText(2));
                } else {
                    due("fault()", x.fault(), y.fault());
                }
            }
        }
    }
}
