import java.util.ArrayList;
import java.util.List;
import java.util.Random;

/** Writes random programs, mostly without a fault. */
final class Author {
    private final Random random;
    private final String[] names;
    private final List<String> told = new ArrayList<>();
    private final StringBuilder text = new StringBuilder();
    private final boolean roomy;
    private int left;

    Author(Random random, String[] names) {
        this.random = random;
        this.names = names;
        roomy = random.nextInt(3) == 0;
        left = 1 + random.nextInt(14);
    }

    String text() {
        if (random.nextInt(8) == 0) {
            growth();
        }
        while (left > 0) {
            step(0);
        }
        return text.toString();
    }

    /** Powers again and again, so that places and doubts grow until something breaks. */
    private void growth() {
        let();
        put("repeat");
        put("" + (1 + random.nextInt(99)));
        for (int i = 1 + random.nextInt(2); i > 0; i--) {
            String name = told.get(random.nextInt(told.size()));
            put("let");
            put(name);
            put("=");
            put(new String[] {"square", "cube", "root", "third", "over"}[random.nextInt(5)]);
            put(name);
            put(random.nextBoolean() ? "*" : "/");
            put(random.nextBoolean() ? name : atom());
            put(";");
        }
        put("end");
    }

    private void put(String token) {
        boolean needs = text.length() > 0 && Character.isLetterOrDigit(text.charAt(text.length() - 1))
                && Character.isLetterOrDigit(token.charAt(0));
        boolean signs = text.length() > 0 && text.charAt(text.length() - 1) == '=' && token.charAt(0) == '=';
        if (needs || signs || roomy) {
            text.append(" \n\t\r".charAt(random.nextInt(10) == 0 ? random.nextInt(4) : 0));
        }
        text.append(token);
    }

    private void step(int depth) {
        left--;
        int kind = random.nextInt(10);
        if (kind < 7 || depth > 5 && random.nextInt(20) > 0) {
            let();
        } else if (kind < 8) {
            put("repeat");
            put(turns());
            body(depth);
            put("end");
        } else {
            put("if");
            if (random.nextInt(3) == 0) {
                put("surely");
            }
            String atom = atom();
            put(atom);
            put(random.nextInt(2) == 0 ? "<" : "==");
            put(random.nextInt(4) == 0 ? atom : atom());
            body(depth);
            if (random.nextBoolean()) {
                put("else");
                body(depth);
            }
            put("end");
        }
    }

    private String turns() {
        switch (random.nextInt(30)) {
            case 0:
                return "100";
            case 1:
                return "99";
            case 2:
                return "0004";
            case 3:
                return "2.0";
            case 4:
            case 5:
                return "0";
            default:
                return "" + (1 + random.nextInt(random.nextInt(4) == 0 ? 20 : 3));
        }
    }

    private void body(int depth) {
        for (int i = random.nextInt(4); i > 0; i--) {
            step(depth + 1);
        }
    }

    private void let() {
        put("let");
        String name = name();
        put(name);
        put("=");
        power();
        for (int i = random.nextInt(random.nextInt(6) == 0 ? 8 : 3); i > 0; i--) {
            put(random.nextInt(2) == 0 ? "*" : "/");
            power();
        }
        put(";");
        told.add(name);
    }

    private String name() {
        if (random.nextInt(12) == 0) {
            StringBuilder made = new StringBuilder();
            for (int i = 1 + random.nextInt(random.nextInt(10) == 0 ? 9 : 8); i > 0; i--) {
                made.append((char) ('a' + random.nextInt(26)));
            }
            return made.toString();
        }
        return names[random.nextInt(random.nextInt(40) == 0 ? names.length : names.length - 1)];
    }

    private void power() {
        if (random.nextInt(3) == 0) {
            put(new String[] {"square", "cube", "root", "third", "over"}[random.nextInt(5)]);
        }
        put(atom());
    }

    private String atom() {
        if (!told.isEmpty() && random.nextInt(2) == 0) {
            return random.nextInt(60) == 0 ? name() : told.get(random.nextInt(told.size()));
        }
        switch (random.nextInt(40)) {
            case 0:
                return "0.0";
            case 1:
                return "12345";
            case 2:
                return "1.00001";
            case 3:
                return "9999.9999";
            case 4:
                return "0.0001";
            case 5:
                return "000" + random.nextInt(10);
            case 6:
                return "0.0" + random.nextInt(1000);
            default:
                return random.nextInt(2) == 0 ? "" + (1 + random.nextInt(9999))
                        : random.nextInt(100) + "." + (1 + random.nextInt(9999));
        }
    }
}
