import java.util.Random;
import java.util.regex.Matcher;
import java.util.regex.Pattern;

/** Promises 4 and 5 on random texts, each compared with a second telling of the grammar. */
public final class TextModelTest {
    private static final Pattern COMMAND =
            Pattern.compile("(open|close) \\d\\d?|(long|ends) \\d\\d? \\d\\d?|turn");
    private static final Pattern PLAN =
            Pattern.compile("((" + COMMAND + ")( (" + COMMAND + "))*)?");
    private static final Pattern TOWN = Pattern.compile("T[2-9]\\d\\d(s\\d\\d\\d\\dx?)*");

    public static void main(String[] args) {
        Random random = new Random(28);
        for (int i = 0; i < 30000; i++) {
            compare(randomText(random));
        }
        Due.end();
    }

    private static String randomText(Random random) {
        String text = random.nextBoolean() ? TownModel.random(random).asText() : plan(random);
        StringBuilder changed = new StringBuilder(text);
        for (int changes = random.nextInt(3); changes > 0 && changed.length() > 0; changes--) {
            int at = random.nextInt(changed.length());
            char c = "Tsx 0123456789openclsgdturx\u0000".charAt(random.nextInt(28));
            switch (random.nextInt(5)) {
                case 0:
                    changed.setCharAt(at, c);
                    break;
                case 1:
                    changed.insert(at, c);
                    break;
                case 2:
                    changed.deleteCharAt(at);
                    break;
                case 3:
                    changed.append("sx T0123".charAt(random.nextInt(8)));
                    break;
                default:
                    changed.setLength(at);
            }
        }
        changed.setLength(Math.min(140, changed.length()));
        return changed.toString();
    }

    private static String plan(Random random) {
        StringBuilder plan = new StringBuilder();
        for (int commands = random.nextInt(15); commands > 0; commands--) {
            int first = random.nextInt(100);
            String[] told = {"open " + first, "close 0" + first % 10, "turn",
                "long " + first + " " + random.nextInt(100), "ends 0 " + first % 10};
            plan.append(plan.length() == 0 ? "" : " ").append(told[random.nextInt(5)]);
        }
        return plan.toString();
    }

    private static void compare(String text) {
        ClosedStreets x = new ClosedStreets();
        Towns.write(x, text);
        Due.is("errorPosition(true) of '" + text + "'", planError(text), x.errorPosition(true));
        int error = townError(text);
        Due.is("errorPosition(false) of '" + text + "'", error, x.errorPosition(false));
        Due.row("load() of '" + text + "'", Due.told(x::load), error == TownModel.NONE
                ? String.valueOf(streetsIn(text)) : "throws.IllegalStateException");
        Due.row("runPlan() of '" + text + "'",
                Due.told(x::runPlan).startsWith("throws.IllegalStateException"),
                planError(text) != TownModel.NONE);
    }

    /** Whether the text can be made longer so that it fits the pattern, or fits as it is. */
    private static boolean begins(Pattern pattern, String text) {
        Matcher matcher = pattern.matcher(text);
        return matcher.matches() || matcher.hitEnd();
    }

    private static int planError(String text) {
        for (int i = 1; i <= text.length(); i++) {
            if (!begins(PLAN, text.substring(0, i))) {
                return i - 1;
            }
        }
        return PLAN.matcher(text).matches() ? TownModel.NONE : text.length();
    }

    private static int townError(String text) {
        for (int i = 1; i <= text.length(); i++) {
            if (!begins(TOWN, text.substring(0, i)) || !means(text.substring(0, i))) {
                return i - 1;
            }
        }
        return TOWN.matcher(text).matches() ? TownModel.NONE : text.length();
    }

    private static int streetsIn(String text) {
        return text.replaceAll("[^s]", "").length();
    }

    /** Whether the last character of a text of the town's form is allowed by its meaning. */
    private static boolean means(String text) {
        if (text.length() < 3) {
            return true;
        }
        int crossings = text.charAt(1) - '0';
        if (text.length() < 5) {
            int end = text.charAt(text.length() - 1) - '0';
            return end < crossings && (text.length() < 4 || text.charAt(2) != text.charAt(3));
        }
        int from = text.lastIndexOf('s');
        String[] ahead = text.substring(4, from).split("s");
        int streets = text.substring(4, from).isEmpty() ? 0 : ahead.length - 1;
        String last = text.substring(from);
        if (last.length() == 1) {
            return streets < 20 && streets < crossings * (crossings - 1) / 2;
        }
        if (last.length() == 2) {
            int joined = 0;
            for (int i = 1; i <= streets; i++) {
                joined += ahead[i].substring(0, 2).indexOf(last.charAt(1)) >= 0 ? 1 : 0;
            }
            return last.charAt(1) - '0' < crossings && joined < crossings - 1;
        }
        if (last.length() == 3) {
            boolean met = last.charAt(1) == last.charAt(2);
            for (int i = 1; i <= streets; i++) {
                String pair = ahead[i].substring(0, 2);
                met |= pair.indexOf(last.charAt(1)) >= 0 && pair.indexOf(last.charAt(2)) >= 0;
            }
            return last.charAt(2) - '0' < crossings && !met;
        }
        return last.length() != 5 || !last.endsWith("00");
    }
}
