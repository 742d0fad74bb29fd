import java.util.ArrayList;
import java.util.List;
import java.util.Random;

/** Random texts of FENS and YEARS: most of them can be read, some are broken in one place. */
final class RandomTexts {
    private static final String[] TRAITS = {"hand", "ear", "wit", "foot", "nose", "eye", "chin"};
    private static final String[] PEOPLE = {"ann", "ben", "cyd", "dot", "eve", "fay", "gus", "hal"};
    private static final String[] TINS = {"a", "b", "c", "d", "e", "f", "g", "h", "i", "j"};
    private static final String[] PIECES = {"odds", "trait", "worth", "person", "is", "lane", "tin", "of", "on", "lead", "pass",
        "bite", "learn", "lose", "any", "when", "got", "gone", "loop", "end", "stop", ";", "<", ">", "=", "ann", "ben", "hand",
        "ear", "a", "b", "zed", "abcdefgh", "abcdefghi", "0", "1", "16", "17", "99", "100", "9999", "12345", "!", "A", "-1"};

    private final Random dice;

    RandomTexts(Random dice) {
        this.dice = dice;
    }

    private String one(String[] names, int many) {
        return names[dice.nextInt(Math.max(many, 1))];
    }

    /** Mostly less than the most there can be, now and then one more. */
    private int upTo(int most) {
        int luck = dice.nextInt(12);
        return luck == 0 && dice.nextInt(4) == 0 ? most + 1 : luck < 4 ? most : dice.nextInt(most + 1);
    }

    String fen() {
        List<String> parts = new ArrayList<>();
        int traits = upTo(6);
        int people = upTo(7);
        int dense = 1 + dice.nextInt(5);
        for (int i = 0; i < traits; i++) {
            parts.add("trait " + TRAITS[i] + " worth " + dice.nextInt(dice.nextInt(3) == 0 ? 100 : 6));
        }
        for (int i = 0; i < people; i++) {
            StringBuilder person = new StringBuilder("person ").append(PEOPLE[i]).append(dice.nextInt(9) == 0 ? "" : " is");
            for (int k = 0; k < traits && person.toString().contains(" is"); k++) {
                person.append(dice.nextInt(5) < dense ? " " + TRAITS[k] : "");
            }
            parts.add(person.toString());
        }
        for (int i = people < 2 ? 0 : upTo(12); i > 0; i--) {
            int from = dice.nextInt(people);
            parts.add("lane " + PEOPLE[from] + " " + PEOPLE[(from + 1 + dice.nextInt(people - 1)) % people]);
        }
        for (int i = traits == 0 || people == 0 ? 0 : upTo(9); i > 0; i--) {
            parts.add("tin " + TINS[i - 1] + " of " + one(TRAITS, traits) + " on " + one(PEOPLE, people)
                + (dice.nextInt(3) == 0 ? " lead" : ""));
        }
        if (dice.nextBoolean()) {
            parts.add(dice.nextInt(parts.size() + 1), "odds " + dice.nextInt(17));
        }
        return dressed(parts, 900);
    }

    String years(SecondFen f) {
        List<String> parts = new ArrayList<>();
        int most = dice.nextInt(14) == 0 ? 33 : 3 + dice.nextInt(12);
        steps(f, parts, most, 0);
        return dressed(parts, 300);
    }

    private String tin(SecondFen f) {
        return f.tins.isEmpty() ? "a" : name(f.tins.get(dice.nextInt(f.tins.size())).name);
    }

    private String person(SecondFen f) {
        return f.people.isEmpty() ? "ann" : name(f.people.get(dice.nextInt(f.people.size())).name);
    }

    private String trait(SecondFen f) {
        return f.traits.isEmpty() ? "ear" : name(f.traits.get(dice.nextInt(f.traits.size())).name);
    }

    /** A struck TIN has none. */
    private String name(String name) {
        return name.isEmpty() ? "a" : name;
    }

    private void steps(SecondFen f, List<String> parts, int most, int depth) {
        int many = dice.nextInt(6);
        for (int i = 0; i < many && parts.size() < most; i++) {
            int kind = dice.nextInt(depth < 3 || dice.nextInt(50) == 0 ? 14 : 8);
            switch (kind) {
                case 0: case 1: parts.add("pass " + tin(f) + " " + person(f)); break;
                case 2: parts.add("bite " + tin(f)); break;
                case 3: parts.add("learn " + person(f) + " " + trait(f)); break;
                case 4: parts.add("lose " + person(f) + " " + trait(f)); break;
                case 5: case 6: parts.add("any"); break;
                case 7: parts.add(dice.nextInt(5) == 0 ? "stop" : "any"); break;
                default: block(f, parts, most, depth); break;
            }
        }
        if (depth == 0 && parts.isEmpty() && dice.nextInt(9) > 0) {
            block(f, parts, most, depth);
        }
    }

    private void block(SecondFen f, List<String> parts, int most, int depth) {
        switch (dice.nextInt(6)) {
            case 0: parts.add("when on " + tin(f) + " " + person(f)); break;
            case 1: parts.add("when gone " + tin(f)); break;
            case 2: parts.add("when got " + person(f) + " " + "<>=".charAt(dice.nextInt(3)) + " " + dice.nextInt(40)); break;
            default: parts.add("loop " + (1 + dice.nextInt(dice.nextInt(3) == 0 ? 99 : 9))); break;
        }
        steps(f, parts, most, depth + 1);
        parts.add("end");
    }

    /** With blanks between, or not; the PARTS that do not fit are left out, and in one of ten something is broken. */
    private String dressed(List<String> parts, int most) {
        StringBuilder text = new StringBuilder();
        boolean wide = dice.nextInt(4) == 0;
        for (String part : parts) {
            String dressed = (wide && dice.nextBoolean() ? "\n" : "") + part + (wide && dice.nextBoolean() ? " ;" : ";");
            if (text.length() + dressed.length() <= most - 12) {
                text.append(dressed);
            }
        }
        if (dice.nextInt(10) == 0) {
            breakIt(text);
        }
        return text.toString();
    }

    private void breakIt(StringBuilder text) {
        int at = dice.nextInt(text.length() + 1);
        int to = Math.min(text.length(), at + 1 + dice.nextInt(4));
        switch (dice.nextInt(4)) {
            case 0: text.delete(at, to); break;
            case 1: text.insert(at, (char) dice.nextInt(256)); break;
            case 2: text.setLength(at); break;
            default: text.insert(at, " " + PIECES[dice.nextInt(PIECES.length)] + " "); break;
        }
    }
}
