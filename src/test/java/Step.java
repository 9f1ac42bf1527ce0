import java.util.ArrayList;
import java.util.List;
import java.util.regex.Matcher;
import java.util.regex.Pattern;

/**
 * One call of a run, and what is due; a row of a test is one step or several:
 * <pre>
 * buy(NONE) 0                         the answer 0 is due
 * buy(NONE)                           an answer is due, no matter which
 * buy(4) throws IndexOutOfBounds      this exception is due
 * enter(1|4, 0..2) true               six calls: the tickets 1 and 4, the rooms 0 to 2
 * 3 x buy(0) 0..2                     three calls, due are 0, 1 and 2
 * visit(0, 5) true                    enter and goOut
 * title(0) B0@3                       titleAt, sign by sign, and NONE behind the last one
 * queue(4) 2 0                        queued, place by place, and NONE behind the last one
 * allMoney() 9 0 0 0 -9               money and moneyBySeen of NONE and 0 to 3, and that the money,
 *                                     what is held and the takings fit together
 * </pre>
 */
final class Step {
    private static final Pattern ROW = Pattern.compile("(?:(\\d+) x )?(\\w+)\\(([^)]*)\\)(?: (.+))?");
    private static final String ANY = "";
    /** Not a call of the face: the takings less what is held, which is all the money that there is. */
    static final String BALANCE = "balance";

    final String name;
    final List<String> arguments;
    private final String due;

    private Step(String name, List<String> arguments, String due) {
        this.name = name;
        this.arguments = arguments;
        this.due = due;
    }

    static Step asking(String name, Object... arguments) {
        List<String> texts = new ArrayList<>();
        for (Object argument : arguments) {
            texts.add(argument.toString());
        }
        return new Step(name, texts, ANY);
    }

    boolean isRefused() {
        return due.startsWith("throws ");
    }

    boolean isAnswered(String answer) {
        return due.equals(ANY) ? !answer.contains("throws") : answer.equals(due);
    }

    String due() {
        return due.equals(ANY) ? "an answer" : due;
    }

    @Override
    public String toString() {
        return name + "(" + String.join(", ", arguments) + ")";
    }

    static List<Step> of(String... rows) {
        List<Step> steps = new ArrayList<>();
        for (String row : rows) {
            addRow(steps, row);
        }
        return steps;
    }

    private static void addRow(List<Step> steps, String row) {
        Matcher matcher = ROW.matcher(row);
        if (!matcher.matches()) {
            throw new IllegalArgumentException("not a row: " + row);
        }
        int times = matcher.group(1) == null ? 1 : Integer.parseInt(matcher.group(1));
        String due = matcher.group(4) == null ? ANY : matcher.group(4);
        List<List<String>> calls = calls(matcher.group(3));
        List<String> dues = due.contains("..") || due.contains("|") ? values(due) : null;
        if (dues != null && dues.size() != times * calls.size()) {
            throw new IllegalArgumentException("not so many answers: " + row);
        }
        for (int i = 0; i < times * calls.size(); i++) {
            addCall(steps, matcher.group(2), calls.get(i % calls.size()), dues == null ? due : dues.get(i));
        }
    }

    /** Each choice of one value for every argument. */
    private static List<List<String>> calls(String arguments) {
        List<List<String>> calls = new ArrayList<>();
        calls.add(new ArrayList<>());
        for (String argument : arguments.isEmpty() ? new String[0] : arguments.split(", ")) {
            List<List<String>> longer = new ArrayList<>();
            for (List<String> call : calls) {
                for (String value : values(argument)) {
                    List<String> one = new ArrayList<>(call);
                    one.add(value);
                    longer.add(one);
                }
            }
            calls = longer;
        }
        return calls;
    }

    private static List<String> values(String text) {
        List<String> values = new ArrayList<>();
        for (String part : text.split("\\|")) {
            int dots = part.indexOf("..");
            if (dots < 0) {
                values.add(number(part));
                continue;
            }
            int last = Integer.parseInt(number(part.substring(dots + 2)));
            for (int i = Integer.parseInt(number(part.substring(0, dots))); i <= last; i++) {
                values.add(Integer.toString(i));
            }
        }
        return values;
    }

    private static String number(String word) {
        return switch (word) {
            case "NONE" -> "-1";
            case "LOW" -> Integer.toString(Integer.MIN_VALUE);
            case "HIGH" -> Integer.toString(Integer.MAX_VALUE);
            default -> word;
        };
    }

    private static void addCall(List<Step> steps, String name, List<String> arguments, String due) {
        switch (name) {
            case "visit" -> {
                steps.add(new Step("enter", arguments, due));
                steps.add(new Step("goOut", arguments.subList(0, 1), arguments.get(1)));
            }
            case "title" -> {
                List<String> signs = new ArrayList<>();
                due.chars().forEach(sign -> signs.add(Integer.toString(sign)));
                addPlaces(steps, "titleAt", arguments.get(0), signs);
            }
            case "queue" -> addPlaces(steps, "queued", arguments.get(0),
                    due.equals("empty") ? List.of() : List.of(due.split(" ")));
            case "allMoney" -> addMoney(steps, due.split(" "));
            default -> steps.add(new Step(name, arguments, number(due)));
        }
    }

    private static void addPlaces(List<Step> steps, String name, String of, List<String> dues) {
        for (int place = 0; place <= dues.size(); place++) {
            String due = place < dues.size() ? dues.get(place) : "-1";
            steps.add(new Step(name, List.of(of, Integer.toString(place)), due));
        }
    }

    private static void addMoney(List<Step> steps, String[] dues) {
        int sum = 0;
        for (int house = -1; house <= 3; house++) {
            List<String> arguments = List.of(Integer.toString(house));
            steps.add(new Step("money", arguments, dues[house + 1]));
            steps.add(new Step("moneyBySeen", arguments, dues[house + 1]));
            sum += Integer.parseInt(dues[house + 1]);
        }
        steps.add(new Step(BALANCE, List.of(), Integer.toString(sum)));
    }
}
