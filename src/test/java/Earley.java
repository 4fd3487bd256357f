import java.util.ArrayList;
import java.util.HashSet;
import java.util.List;
import java.util.Set;

/**
 * The FAULT of a text by the grammars alone: an Earley recogniser over rules that are made when they are
 * asked for. The first byte at which no text can go on is the first whose set of items is empty.
 */
final class Earley {
    private record Item(String left, List<String> right, int dot, int from) {
    }

    private Earley() {
    }

    static int fault(int sort, String text) {
        String start = sort == 0 ? "roll 12" : sort == 1 ? "plot 20" : "habit";
        List<Set<Item>> sets = new ArrayList<>();
        Set<Item> first = new HashSet<>();
        first.add(new Item("START", List.of(start, "blanks"), 0, 0));
        sets.add(first);
        for (int i = 0; i <= text.length(); i++) {
            close(sets, i);
            if (i == text.length()) {
                break;
            }
            Set<Item> next = new HashSet<>();
            for (Item item : sets.get(i)) {
                if (item.dot < item.right.size() && fits(item.right.get(item.dot), text.charAt(i))) {
                    next.add(new Item(item.left, item.right, item.dot + 1, item.from));
                }
            }
            if (next.isEmpty()) {
                return i;
            }
            sets.add(next);
        }
        for (Item item : sets.get(text.length())) {
            if (item.left.equals("START") && item.dot == item.right.size()) {
                return -1;
            }
        }
        return text.length();
    }

    private static void close(List<Set<Item>> sets, int i) {
        List<Item> todo = new ArrayList<>(sets.get(i));
        Set<Item> set = sets.get(i);
        for (int k = 0; k < todo.size(); k++) {
            Item item = todo.get(k);
            List<Item> more = new ArrayList<>();
            if (item.dot == item.right.size()) {
                for (Item waiting : new ArrayList<>(sets.get(item.from))) {
                    if (waiting.dot < waiting.right.size() && waiting.right.get(waiting.dot).equals(item.left)) {
                        more.add(new Item(waiting.left, waiting.right, waiting.dot + 1, waiting.from));
                    }
                }
            } else if (!item.right.get(item.dot).startsWith("'")) {
                String symbol = item.right.get(item.dot);
                for (List<String> right : rules(symbol)) {
                    more.add(new Item(symbol, right, 0, i));
                    if (nullable(right)) {
                        more.add(new Item(item.left, item.right, item.dot + 1, item.from));
                    }
                }
            }
            for (Item each : more) {
                if (set.add(each)) {
                    todo.add(each);
                }
            }
        }
    }

    private static boolean nullable(List<String> right) {
        for (String symbol : right) {
            if (!symbol.equals("blanks")) {
                return false;
            }
        }
        return true;
    }

    private static boolean fits(String symbol, char c) {
        return symbol.startsWith("'") && symbol.indexOf(c, 1) > 0;
    }

    /** The rules of a symbol; "'" begins a set of bytes, and a number in a name counts what may still come. */
    private static List<List<String>> rules(String symbol) {
        String[] name = symbol.split(" ");
        int n = name.length > 1 ? Integer.parseInt(name[1]) : 0;
        List<List<String>> rules = new ArrayList<>();
        String down = " " + (n - 1);
        String same = " " + n;
        String up = " " + (n + 1);
        switch (name[0]) {
            case "blanks" -> {
                rules.add(List.of());
                rules.add(List.of("' ", "blanks"));
            }
            case "roll" -> {
                rules.add(List.of("cue", "blanks", "'>", "speech 12"));
                if (n > 1) {
                    rules.add(List.of("cue", "blanks", "'>", "speech 12", "blanks", "';", "roll" + down));
                }
            }
            case "cue" -> {
                rules.add(List.of("blanks", "'-"));
                rules.add(List.of("blanks", "word 8"));
                rules.add(List.of("blanks", "word 8", "' ", "blanks", "word 8"));
            }
            case "speech" -> {
                rules.add(List.of("blanks", "word 8"));
                if (n > 1) {
                    rules.add(List.of("blanks", "word 8", "' ", "speech" + down));
                }
            }
            case "word" -> {
                rules.add(List.of("'abcdefghijklmnopqrstuvwxyz"));
                if (n > 1) {
                    rules.add(List.of("'abcdefghijklmnopqrstuvwxyz", "word" + down));
                }
            }
            case "plot" -> {
                rules.add(List.of("scene 0"));
                if (n > 1) {
                    rules.add(List.of("scene 0", "blanks", "'/", "plot" + down));
                }
            }
            case "scene" -> {
                for (int part = 0; part < 10; part++) {
                    if ((n >> part & 1) == 0) {
                        String letter = "'" + (char) ('a' + part);
                        rules.add(List.of("blanks", letter));
                        rules.add(List.of("blanks", letter, "scene " + (n | 1 << part)));
                    }
                }
            }
            case "habit" -> {
                rules.add(List.of("clause"));
                rules.add(List.of("clause", "blanks", "';", "habit"));
            }
            case "clause" -> {
                rules.add(List.of("blanks", "'y", "blanks", "':", "sum 0"));
                rules.add(List.of("blanks", "'y", "blanks", "':", "condition 0", "blanks", "'?", "sum 0"));
            }
            case "condition" -> {
                rules.add(List.of("truth" + same));
                rules.add(List.of("truth" + same, "blanks", "'|", "condition" + same));
            }
            case "truth" -> {
                rules.add(List.of("unit" + same));
                rules.add(List.of("unit" + same, "blanks", "'&", "truth" + same));
            }
            case "unit" -> {
                rules.add(List.of("sum" + same, "blanks", "'=<>", "sum" + same));
                if (n < 6) {
                    rules.add(List.of("blanks", "'!", "unit" + up));
                    rules.add(List.of("blanks", "'(", "condition" + up, "blanks", "')"));
                }
            }
            case "sum" -> {
                rules.add(List.of("term" + same));
                rules.add(List.of("term" + same, "blanks", "'+-", "sum" + same));
            }
            case "term" -> {
                rules.add(List.of("atom" + same));
                rules.add(List.of("atom" + same, "blanks", "'*/", "term" + same));
            }
            case "atom" -> {
                rules.add(List.of("blanks", "'nvflw"));
                rules.add(List.of("blanks", "digits 4"));
                if (n < 6) {
                    rules.add(List.of("blanks", "'[", "sum" + up, "blanks", "']"));
                }
            }
            case "digits" -> {
                rules.add(List.of("'0123456789"));
                if (n > 1) {
                    rules.add(List.of("'0123456789", "digits" + down));
                }
            }
            default -> throw new IllegalStateException(symbol);
        }
        return rules;
    }
}
