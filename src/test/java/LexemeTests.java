import java.util.ArrayList;
import java.util.List;
import java.util.regex.Matcher;
import java.util.regex.Pattern;

/**
 * The error offset wherever a text can go wrong: texts that use the whole grammar and go over each of its
 * limits, with every lexeme left out, replaced by every other kind of lexeme, or preceded by one, against
 * the model of the document.
 */
public final class LexemeTests {
    private static final Answers ANSWERS = new Answers();

    private static final String[] TEXTS = {
        "init x 5; init y -7; init z 00; init x -99;",
        "invariant x<5; invariant -1=y; invariant z>x; method do x=1;",
        "method require x<5 require -3=z do x=x+1 do y=-y4 do z=5--5 ensure old x<x ensure -2>old z;",
        "method require y>z do z=z-x do y=x do x=12 ensure y=old y;",
        "method do x=-1; method do y=2; method do z=x+-3; method do x=y; method do y=z; method do z=0;",
        "method do x=1 ensure old x=old y; init z -1; invariant 1<2; method require 1=1 do x=x-y;",
        "invariant 1<2; invariant 1<2; invariant 1<2; init x 1; invariant 1<2;",
        "method require 1<2 require 1<2 require 1<2 do x=1;",
        "method do x=1 do y=2 do z=3 do x=4;",
        "method do x=1 ensure 1<2 ensure 1<2 ensure 1<2;",
        "method do x=1; method do x=1; method do x=1; method do x=1; method do x=1; method do x=1; method do x=1;",
    };

    private static final String[] LEXEMES = {
        "init", "invariant", "method", "require", "do", "ensure", "old", "x", "y", "z", "w", "xy", "inits", "ol",
        "0", "07", "99", "100", "000", "+", "-", "<", "=", ">", ";", "X", "_", "\t", "\n", "\u0000", "\u00a0", "\u00ff",
    };

    public static void main(String[] arguments) {
        for (String text : TEXTS) {
            List<String> lexemes = lexemesOf(text);
            for (int index = 0; index <= lexemes.size(); index++) {
                cutBefore(lexemes, index);
                for (String lexeme : LEXEMES) {
                    precededBy(lexemes, index, lexeme);
                    replacedBy(lexemes, index, lexeme);
                }
                leftOut(lexemes, index);
            }
        }
        ANSWERS.finish("LexemeTests");
    }

    private static List<String> lexemesOf(String text) {
        List<String> lexemes = new ArrayList<>();
        Matcher matcher = Pattern.compile("[a-z]+|[0-9]+|[^ ]").matcher(text);
        while (matcher.find()) {
            lexemes.add(matcher.group());
        }
        return lexemes;
    }

    private static void cutBefore(List<String> lexemes, int index) {
        same(lexemes.subList(0, index));
    }

    private static void precededBy(List<String> lexemes, int index, String lexeme) {
        List<String> changed = new ArrayList<>(lexemes);
        changed.add(index, lexeme);
        same(changed);
    }

    private static void replacedBy(List<String> lexemes, int index, String lexeme) {
        if (index < lexemes.size()) {
            List<String> changed = new ArrayList<>(lexemes);
            changed.set(index, lexeme);
            same(changed);
        }
    }

    private static void leftOut(List<String> lexemes, int index) {
        if (index < lexemes.size()) {
            List<String> changed = new ArrayList<>(lexemes);
            changed.remove(index);
            same(changed);
        }
    }

    private static void same(List<String> lexemes) {
        same(String.join(" ", lexemes) + "  ");
        same(" " + close(lexemes));
    }

    /** With spaces only where two lexemes would become one without. */
    private static String close(List<String> lexemes) {
        StringBuilder text = new StringBuilder();
        String last = "";
        for (String lexeme : lexemes) {
            text.append((last + "|" + lexeme).matches("[a-z]+\\|[a-z]+|[0-9]+\\|[0-9]+") ? " " : "").append(lexeme);
            last = lexeme;
        }
        return text.toString();
    }

    private static void same(String text) {
        ContractTester tester = new ContractTester();
        Model model = new Model();
        for (int index = 0; index < text.length(); index++) {
            ANSWERS.due("append to '" + text + "'", model.appendCharacter(text.charAt(index)),
                    tester.appendCharacter(text.charAt(index)));
        }
        ANSWERS.due("load of '" + text + "'", model.loadComponent(), tester.loadComponent());
        for (int method = 0; method <= model.methodCount(); method++) {
            ANSWERS.due("complexity(" + method + ") of '" + text + "'", model.complexity(method), tester.complexity(method));
        }
        for (int field = 0; field < 3; field++) {
            ANSWERS.due("finalValue(0, " + field + ") of '" + text + "'", model.finalValue(0, field), tester.finalValue(0, field));
        }
        ANSWERS.due("text left of '" + text + "'", model.clearText(), tester.clearText());
    }
}
