import java.util.ArrayList;
import java.util.List;
import java.util.Random;

/** Texts and numbers by chance, always the same ones for the same start. */
final class Draws {
    private static final String[] WORDS = {"safe", "hook", "senator", "act", "for", "rests", "doubted", "went", "fell",
        "quorum", "heat", "thunder", "salt", "air", "at", "good", "votes", "day", "fresh", "salted", "cold", "a", "b",
        "p", "q", "x", "y", "zz", "abcdefgh", "abcdefghi", ";", ";", "0", "1", "7", "41", "100", "999", "1000", "!", "A"};
    private static final String[] KINDS = {"fresh", "salted", "cold"};
    final Random random;

    Draws(long start) {
        random = new Random(start);
    }

    int below(int n) {
        return random.nextInt(n);
    }

    int within(int least, int most) {
        return least + below(most - least + 1);
    }

    boolean often(int inHundred) {
        return below(100) < inHundred;
    }

    /** A number mostly near the bounds 0 and most, now and then any. */
    int near(int most) {
        int draw = below(40);
        if (draw == 0) {
            return random.nextInt();
        }
        if (draw == 1) {
            return most + 1;
        }
        return draw == 2 ? -1 : within(0, most);
    }

    /** A SAFE without a fault. */
    String sound() {
        List<String> lines = new ArrayList<>();
        lines.add("safe quorum " + within(1, often(80) ? 3 : 6) + " heat " + within(1, 9) + " thunder "
            + within(0, 100) + " salt " + within(0, often(50) ? 2 : 9));
        int hooks = within(1, 6);
        int senators = within(1, hooks);
        int acts = within(0, 5);
        List<Integer> free = new ArrayList<>();
        for (int h = 0; h < hooks; h++) {
            lines.add("hook h" + letter(h) + " air " + within(0, 9));
            free.add(h);
        }
        for (int s = 0; s < senators; s++) {
            int h = free.remove(below(free.size()));
            lines.add("senator s" + letter(s) + " " + KINDS[below(3)] + " at h" + letter(h) + " good "
                + within(1, often(60) ? 20 : 99) + " votes " + within(0, 9));
        }
        for (int a = 0; a < acts; a++) {
            lines.add("act a" + letter(a) + " day " + within(0, often(70) ? 8 : 40));
        }
        addPairs(lines, "for s", senators, "a", acts, within(0, 15));
        addPairs(lines, "rests a", acts, "a", acts, within(0, 6));
        if (often(70)) {
            lines.add("doubted s" + letter(below(senators)));
        }
        for (int a = 0; a < acts; a++) {
            if (often(30)) {
                lines.add((often(50) ? "went a" : "fell a") + letter(a));
            }
        }
        return String.join(often(50) ? ";" : " ; ", lines);
    }

    private static char letter(int i) {
        return (char) ('a' + i);
    }

    private void addPairs(List<String> lines, String head, int firsts, String tail, int seconds, int tries) {
        for (int i = 0; i < tries && firsts > 0 && seconds > 0; i++) {
            int first = below(firsts);
            int second = below(seconds);
            String line = head + letter(first) + " " + tail + letter(second);
            boolean self = head.startsWith("rests") && first == second;
            if (!lines.contains(line) && !self) {
                lines.add(line);
            }
        }
    }

    /** A text in which some tokens are left out, put in or put in another's place. */
    String spoilt() {
        List<String> tokens = new ArrayList<>(List.of(sound().replace(";", " ; ").trim().split(" +")));
        for (int i = within(1, 3); i > 0 && !tokens.isEmpty(); i--) {
            int at = below(tokens.size());
            int how = below(6);
            if (how == 0) {
                tokens.remove(at);
            } else if (how == 1) {
                tokens.add(at, WORDS[below(WORDS.length)]);
            } else if (how == 2) {
                tokens.set(at, tokens.get(below(tokens.size())));
            } else if (how == 3) {
                tokens.set(at, WORDS[below(WORDS.length)]);
            } else if (how == 4) {
                lineAgain(tokens, at);
            } else {
                otherName(tokens);
            }
        }
        String text = String.join(" ", tokens);
        return often(10) ? text.substring(0, below(text.length() + 1)) : text;
    }

    /** Tells the line around a token once more at the end. */
    private static void lineAgain(List<String> tokens, int at) {
        int from = at;
        while (from > 0 && !tokens.get(from - 1).equals(";")) {
            from--;
        }
        int to = at;
        while (to < tokens.size() && !tokens.get(to).equals(";")) {
            to++;
        }
        List<String> line = new ArrayList<>(tokens.subList(from, Math.max(from, to)));
        tokens.add(";");
        tokens.addAll(line);
    }

    /** Puts another name of the same sort in a name's place. */
    private void otherName(List<String> tokens) {
        List<Integer> names = new ArrayList<>();
        for (int i = 0; i < tokens.size(); i++) {
            if (tokens.get(i).matches("[hsa][a-f]")) {
                names.add(i);
            }
        }
        if (!names.isEmpty()) {
            int at = names.get(below(names.size()));
            tokens.set(at, tokens.get(at).substring(0, 1) + letter(below(6)));
        }
    }

    /** Tokens by chance alone. */
    String babble() {
        StringBuilder text = new StringBuilder();
        for (int i = below(30); i > 0; i--) {
            text.append(WORDS[below(WORDS.length)]).append(often(80) ? " " : "");
        }
        return text.toString();
    }
}
